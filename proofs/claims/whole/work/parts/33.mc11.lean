section MC11
variable {M : me_M} {m : Nat} {D : me_D} {n r i : Nat}
theorem g_firstsU_ne {j x : Nat} (h1 : ¬ j = 24) (h2 : ¬ j = 1666) (h3 : ¬ j = 1667) (k : Nat) : g_firstsU D n r i k j x = D j x := by
  induction k with
  | zero => rfl
  | succ k ih => rw [g_firstsU, g_send_ne h1 h2 h3, ih]
theorem uOK_firsts (h : uOK D) (k : Nat) : uOK (g_firstsU D n r i k) := by
  induction k with
  | zero => exact h
  | succ k ih => rw [g_firstsU]; exact uOK_send ih
theorem c_Md_propose2 (H : mdl M m) (hN : D 1640 0 = nI n) (hn : n ≤ 5) (hn2 : 2 ≤ n) (hu : uOK D) (hr : r < 5) (hi : i < 30) {Q : Option me_V → me_M → Prop} (hq : Q (some (.inl (nI i))) (sD M m (g_firstsU D n r i (n - 2)))) : EX eL X_Md_propose 120 [some (.inr (some m)), some (.inl (nI r)), none, none, none, some (.inl (nI i)), none, some (.inl (nI 1))] [] (sD M m D) Q := by
  have loop : ∀ t k, t + k = n - 2 → EX eL X_Md_propose 120 [some (.inr (some m)), some (.inl (nI r)), none, none, none, some (.inl (nI i)), none, some (.inl (nI (k + 1)))] [] (sD M m (g_firstsU D n r i k)) Q := by
    intro t
    induction t with
    | zero =>
      intro k hk
      have hk : k = n - 2 := by omega
      subst hk
      refine sg_Md_propose_120 ?_
      simp (disch := omega) only [mKd_sD, mLn_sD, mR_sD, md_K H, md_R1 H, md_K1 H, md_L1 H, mI_sD1, mS_sD1, md_R2 H, md_K2 H, md_L2 H, mI_sD2, mS_sD2, md_R3 H, md_K3 H, md_L3 H, mI_sD3, mS_sD3, md_R4 H, md_K4 H, md_L4 H, mI_sD4, mS_sD4, md_R5 H, md_K5 H, md_L5 H, mI_sD5, mS_sD5, md_R6 H, md_K6 H, md_L6 H, mI_sD6, mS_sD6, md_R7 H, md_K7 H, md_L7 H, mI_sD7, mS_sD7, md_R8 H, md_K8 H, md_L8 H, mI_sD8, mS_sD8, md_R9 H, md_K9 H, md_L9 H, mI_sD9, mS_sD9, md_R10 H, md_K10 H, md_L10 H, mI_sD10, mS_sD10, md_R11 H, md_K11 H, md_L11 H, mI_sD11, mS_sD11, md_R12 H, md_K12 H, md_L12 H, mI_sD12, mS_sD12, md_R13 H, md_K13 H, md_L13 H, mI_sD13, mS_sD13, md_R14 H, md_K14 H, md_L14 H, mI_sD14, mS_sD14, md_R15 H, md_K15 H, md_L15 H, mI_sD15, mS_sD15, md_R16 H, md_K16 H, md_L16 H, mI_sD16, mS_sD16, md_R17 H, md_K17 H, md_L17 H, mI_sD17, mS_sD17, md_R18 H, md_K18 H, md_L18 H, mI_sD18, mS_sD18, md_R19 H, md_K19 H, md_L19 H, mI_sD19, mS_sD19, md_R20 H, md_K20 H, md_L20 H, mI_sD20, mS_sD20, md_R21 H, md_K21 H, md_L21 H, mI_sD21, mS_sD21, md_R22 H, md_K22 H, md_L22 H, mI_sD22, mS_sD22, md_R23 H, md_K23 H, md_L23 H, mI_sD23, mS_sD23, md_R24 H, md_K24 H, md_L24 H, mI_sD24, mS_sD24, md_R25 H, md_K25 H, md_L25 H, mI_sD25, mS_sD25, mI_sDs1640, mS_sDs1640, mI_sDs1641, mS_sDs1641, mI_sDs1642, mS_sDs1642, mI_sDs1666, mS_sDs1666, mI_sDs1667, mS_sDs1667, vi440, cl440, vi441, cl441, vi442, cl442, vi443, cl443, vi444, cl444, vi445, cl445, vi446, cl446, vi447, cl447, vi448, cl448, vi449, cl449, vi450, cl450, forall_eq, Option.some.injEq, exists_eq_left', true_and, m30, m11, m6, m4, nI_add, p1, p2, p3, p4, p5, p6, p7, p8, p9, p10, p11, p440, vin, cl, nle, nlt, neq, nI_i1, dU_ne, g_firstsU_ne, hN, n_2]
      exact ⟨fun _ => hq, fun h => absurd (by omega) h⟩
    | succ t ih =>
      intro k hk
      have go := ih (k + 1) (by omega)
      rw [g_firstsU] at go
      refine sg_Md_propose_120 ?_
      simp (disch := omega) only [mKd_sD, mLn_sD, mR_sD, md_K H, md_R1 H, md_K1 H, md_L1 H, mI_sD1, mS_sD1, md_R2 H, md_K2 H, md_L2 H, mI_sD2, mS_sD2, md_R3 H, md_K3 H, md_L3 H, mI_sD3, mS_sD3, md_R4 H, md_K4 H, md_L4 H, mI_sD4, mS_sD4, md_R5 H, md_K5 H, md_L5 H, mI_sD5, mS_sD5, md_R6 H, md_K6 H, md_L6 H, mI_sD6, mS_sD6, md_R7 H, md_K7 H, md_L7 H, mI_sD7, mS_sD7, md_R8 H, md_K8 H, md_L8 H, mI_sD8, mS_sD8, md_R9 H, md_K9 H, md_L9 H, mI_sD9, mS_sD9, md_R10 H, md_K10 H, md_L10 H, mI_sD10, mS_sD10, md_R11 H, md_K11 H, md_L11 H, mI_sD11, mS_sD11, md_R12 H, md_K12 H, md_L12 H, mI_sD12, mS_sD12, md_R13 H, md_K13 H, md_L13 H, mI_sD13, mS_sD13, md_R14 H, md_K14 H, md_L14 H, mI_sD14, mS_sD14, md_R15 H, md_K15 H, md_L15 H, mI_sD15, mS_sD15, md_R16 H, md_K16 H, md_L16 H, mI_sD16, mS_sD16, md_R17 H, md_K17 H, md_L17 H, mI_sD17, mS_sD17, md_R18 H, md_K18 H, md_L18 H, mI_sD18, mS_sD18, md_R19 H, md_K19 H, md_L19 H, mI_sD19, mS_sD19, md_R20 H, md_K20 H, md_L20 H, mI_sD20, mS_sD20, md_R21 H, md_K21 H, md_L21 H, mI_sD21, mS_sD21, md_R22 H, md_K22 H, md_L22 H, mI_sD22, mS_sD22, md_R23 H, md_K23 H, md_L23 H, mI_sD23, mS_sD23, md_R24 H, md_K24 H, md_L24 H, mI_sD24, mS_sD24, md_R25 H, md_K25 H, md_L25 H, mI_sD25, mS_sD25, mI_sDs1640, mS_sDs1640, mI_sDs1641, mS_sDs1641, mI_sDs1642, mS_sDs1642, mI_sDs1666, mS_sDs1666, mI_sDs1667, mS_sDs1667, vi440, cl440, vi441, cl441, vi442, cl442, vi443, cl443, vi444, cl444, vi445, cl445, vi446, cl446, vi447, cl447, vi448, cl448, vi449, cl449, vi450, cl450, forall_eq, Option.some.injEq, exists_eq_left', true_and, m30, m11, m6, m4, nI_add, p1, p2, p3, p4, p5, p6, p7, p8, p9, p10, p11, p440, vin, cl, nle, nlt, neq, nI_i1, dU_ne, g_firstsU_ne, hN, n_2]
      refine ⟨fun h => absurd h (by omega), fun _ => ⟨nne0 (by omega) (by omega), ?_⟩⟩
      rw [nrem (by omega) (by omega) (by omega)]
      refine EX.mono (c_Md_send' H (uOK_firsts hu k) hr hi) fun w N hv => ?_
      obtain ⟨rfl, rfl⟩ := hv
      exact ⟨rfl, go⟩
  exact loop (n - 2) 0 (by omega)
def g_propose (D : me_D) (n r key : Nat) (put : Bool) (v : Int32) : me_D := match g_freeU D r 6 0 with
  | none => D
  | some i => g_begin D n r i key put v
theorem c_Md_propose_bad (H : mdl M m) (hN : D 1640 0 = nI n) (hn : n ≤ 5) {v k p x : Int32} (hb : ¬ ∃ r key, r < n ∧ v = nI r ∧ key < 4 ∧ k = nI key ∧ D 1 r = 0) : EX eL X_Md_propose 0 [some (.inr (some m)), some (.inl v), some (.inl k), some (.inl p), some (.inl x), none, none, none] [] (sD M m D) (fun w N => w = some (.inl (-1)) ∧ N = sD M m D) := by
  refine sg_Md_propose_0 ?_
  simp (disch := omega) only [mKd_sD, mLn_sD, mR_sD, md_K H, md_R1 H, md_K1 H, md_L1 H, mI_sD1, mS_sD1, md_R2 H, md_K2 H, md_L2 H, mI_sD2, mS_sD2, md_R3 H, md_K3 H, md_L3 H, mI_sD3, mS_sD3, md_R4 H, md_K4 H, md_L4 H, mI_sD4, mS_sD4, md_R5 H, md_K5 H, md_L5 H, mI_sD5, mS_sD5, md_R6 H, md_K6 H, md_L6 H, mI_sD6, mS_sD6, md_R7 H, md_K7 H, md_L7 H, mI_sD7, mS_sD7, md_R8 H, md_K8 H, md_L8 H, mI_sD8, mS_sD8, md_R9 H, md_K9 H, md_L9 H, mI_sD9, mS_sD9, md_R10 H, md_K10 H, md_L10 H, mI_sD10, mS_sD10, md_R11 H, md_K11 H, md_L11 H, mI_sD11, mS_sD11, md_R12 H, md_K12 H, md_L12 H, mI_sD12, mS_sD12, md_R13 H, md_K13 H, md_L13 H, mI_sD13, mS_sD13, md_R14 H, md_K14 H, md_L14 H, mI_sD14, mS_sD14, md_R15 H, md_K15 H, md_L15 H, mI_sD15, mS_sD15, md_R16 H, md_K16 H, md_L16 H, mI_sD16, mS_sD16, md_R17 H, md_K17 H, md_L17 H, mI_sD17, mS_sD17, md_R18 H, md_K18 H, md_L18 H, mI_sD18, mS_sD18, md_R19 H, md_K19 H, md_L19 H, mI_sD19, mS_sD19, md_R20 H, md_K20 H, md_L20 H, mI_sD20, mS_sD20, md_R21 H, md_K21 H, md_L21 H, mI_sD21, mS_sD21, md_R22 H, md_K22 H, md_L22 H, mI_sD22, mS_sD22, md_R23 H, md_K23 H, md_L23 H, mI_sD23, mS_sD23, md_R24 H, md_K24 H, md_L24 H, mI_sD24, mS_sD24, md_R25 H, md_K25 H, md_L25 H, mI_sD25, mS_sD25, mI_sDs1640, mS_sDs1640, mI_sDs1641, mS_sDs1641, mI_sDs1642, mS_sDs1642, mI_sDs1666, mS_sDs1666, mI_sDs1667, mS_sDs1667, vi440, cl440, vi441, cl441, vi442, cl442, vi443, cl443, vi444, cl444, vi445, cl445, vi446, cl446, vi447, cl447, vi448, cl448, vi449, cl449, vi450, cl450, forall_eq, Option.some.injEq, exists_eq_left', true_and, m30, m11, m6, m4, nI_add, p1, p2, p3, p4, p5, p6, p7, p8, p9, p10, p11, p440, vin, cl, nle, nlt, neq, nI_i1, dU_ne, hN, and_true]
  refine ⟨fun _ => trivial, fun h1 => ⟨fun _ => trivial, fun h2 => ⟨fun _ => trivial, fun h3 => ⟨fun _ => trivial, fun h4 => ?_⟩⟩⟩⟩
  obtain ⟨r, hr, rfl⟩ := nI_of (x := v) h1
  obtain ⟨key, hk, rfl⟩ := nI_of (x := k) h3
  have hrn : r < n := by rw [nle (by omega) (by omega)] at h2; omega
  have hk4 : key < 4 := by
    have : ¬ 3 < key := fun z => h4 ((nlt (a := 3) (by decide) (by omega)).mpr z)
    omega
  simp (disch := omega) only [mKd_sD, mLn_sD, mR_sD, md_K H, md_R1 H, md_K1 H, md_L1 H, mI_sD1, mS_sD1, md_R2 H, md_K2 H, md_L2 H, mI_sD2, mS_sD2, md_R3 H, md_K3 H, md_L3 H, mI_sD3, mS_sD3, md_R4 H, md_K4 H, md_L4 H, mI_sD4, mS_sD4, md_R5 H, md_K5 H, md_L5 H, mI_sD5, mS_sD5, md_R6 H, md_K6 H, md_L6 H, mI_sD6, mS_sD6, md_R7 H, md_K7 H, md_L7 H, mI_sD7, mS_sD7, md_R8 H, md_K8 H, md_L8 H, mI_sD8, mS_sD8, md_R9 H, md_K9 H, md_L9 H, mI_sD9, mS_sD9, md_R10 H, md_K10 H, md_L10 H, mI_sD10, mS_sD10, md_R11 H, md_K11 H, md_L11 H, mI_sD11, mS_sD11, md_R12 H, md_K12 H, md_L12 H, mI_sD12, mS_sD12, md_R13 H, md_K13 H, md_L13 H, mI_sD13, mS_sD13, md_R14 H, md_K14 H, md_L14 H, mI_sD14, mS_sD14, md_R15 H, md_K15 H, md_L15 H, mI_sD15, mS_sD15, md_R16 H, md_K16 H, md_L16 H, mI_sD16, mS_sD16, md_R17 H, md_K17 H, md_L17 H, mI_sD17, mS_sD17, md_R18 H, md_K18 H, md_L18 H, mI_sD18, mS_sD18, md_R19 H, md_K19 H, md_L19 H, mI_sD19, mS_sD19, md_R20 H, md_K20 H, md_L20 H, mI_sD20, mS_sD20, md_R21 H, md_K21 H, md_L21 H, mI_sD21, mS_sD21, md_R22 H, md_K22 H, md_L22 H, mI_sD22, mS_sD22, md_R23 H, md_K23 H, md_L23 H, mI_sD23, mS_sD23, md_R24 H, md_K24 H, md_L24 H, mI_sD24, mS_sD24, md_R25 H, md_K25 H, md_L25 H, mI_sD25, mS_sD25, mI_sDs1640, mS_sDs1640, mI_sDs1641, mS_sDs1641, mI_sDs1642, mS_sDs1642, mI_sDs1666, mS_sDs1666, mI_sDs1667, mS_sDs1667, vi440, cl440, vi441, cl441, vi442, cl442, vi443, cl443, vi444, cl444, vi445, cl445, vi446, cl446, vi447, cl447, vi448, cl448, vi449, cl449, vi450, cl450, forall_eq, Option.some.injEq, exists_eq_left', true_and, m30, m11, m6, m4, nI_add, p1, p2, p3, p4, p5, p6, p7, p8, p9, p10, p11, p440, vin, cl, nle, nlt, neq, nI_i1, dU_ne]
  exact ⟨fun h5 => absurd ⟨r, key, hrn, rfl, hk4, rfl, h5⟩ hb, fun _ => trivial⟩
theorem g_freeU_lt {b : Nat} : ∀ {k j : Nat}, g_freeU D r k j = some b → b < 6 * r + j + k := by
  intro k
  induction k with
  | zero => intro j h; cases h
  | succ k ih =>
    intro j h
    rw [g_freeU] at h
    split at h
    · cases h; omega
    · have := ih h; omega
set_option maxHeartbeats 1000000 in
theorem c_Md_propose_ok (H : mdl M m) (hN : D 1640 0 = nI n) (hI : D 1642 0 = nI (6 * n)) (hn : n ≤ 5) (hn2 : 2 ≤ n) (hu : uOK D) {key : Nat} (hr : r < n) (hk : key < 4) (hc : D 1 r = 0) {p x : Int32} : EX eL X_Md_propose 0 [some (.inr (some m)), some (.inl (nI r)), some (.inl (nI key)), some (.inl p), some (.inl x), none, none, none] [] (sD M m D) (fun w N => w = some (.inl (oI (g_freeU D r 6 0))) ∧ N = sD M m (g_propose D n r key (decide (¬ p = 0)) x)) := by
  refine sg_Md_propose_0 ?_
  have loop : ∀ t j, t + j = 6 → g_freeU D r 6 0 = g_freeU D r t j → EX eL X_Md_propose 38 [some (.inr (some m)), some (.inl (nI r)), some (.inl (nI key)), some (.inl p), some (.inl x), some (.inl (nI (6 * r + j))), none, none] [] (sD M m D) (fun w N => w = some (.inl (oI (g_freeU D r 6 0))) ∧ N = sD M m (g_propose D n r key (decide (¬ p = 0)) x)) := by
    intro t
    induction t with
    | zero =>
      intro j hj hg
      have hj : j = 6 := by omega
      subst hj
      have hP : g_propose D n r key (decide (¬ p = 0)) x = D := by unfold g_propose; rw [hg]; rfl
      refine sg_Md_propose_38 ?_
      simp (disch := omega) only [mKd_sD, mLn_sD, mR_sD, md_K H, md_R1 H, md_K1 H, md_L1 H, mI_sD1, mS_sD1, md_R2 H, md_K2 H, md_L2 H, mI_sD2, mS_sD2, md_R3 H, md_K3 H, md_L3 H, mI_sD3, mS_sD3, md_R4 H, md_K4 H, md_L4 H, mI_sD4, mS_sD4, md_R5 H, md_K5 H, md_L5 H, mI_sD5, mS_sD5, md_R6 H, md_K6 H, md_L6 H, mI_sD6, mS_sD6, md_R7 H, md_K7 H, md_L7 H, mI_sD7, mS_sD7, md_R8 H, md_K8 H, md_L8 H, mI_sD8, mS_sD8, md_R9 H, md_K9 H, md_L9 H, mI_sD9, mS_sD9, md_R10 H, md_K10 H, md_L10 H, mI_sD10, mS_sD10, md_R11 H, md_K11 H, md_L11 H, mI_sD11, mS_sD11, md_R12 H, md_K12 H, md_L12 H, mI_sD12, mS_sD12, md_R13 H, md_K13 H, md_L13 H, mI_sD13, mS_sD13, md_R14 H, md_K14 H, md_L14 H, mI_sD14, mS_sD14, md_R15 H, md_K15 H, md_L15 H, mI_sD15, mS_sD15, md_R16 H, md_K16 H, md_L16 H, mI_sD16, mS_sD16, md_R17 H, md_K17 H, md_L17 H, mI_sD17, mS_sD17, md_R18 H, md_K18 H, md_L18 H, mI_sD18, mS_sD18, md_R19 H, md_K19 H, md_L19 H, mI_sD19, mS_sD19, md_R20 H, md_K20 H, md_L20 H, mI_sD20, mS_sD20, md_R21 H, md_K21 H, md_L21 H, mI_sD21, mS_sD21, md_R22 H, md_K22 H, md_L22 H, mI_sD22, mS_sD22, md_R23 H, md_K23 H, md_L23 H, mI_sD23, mS_sD23, md_R24 H, md_K24 H, md_L24 H, mI_sD24, mS_sD24, md_R25 H, md_K25 H, md_L25 H, mI_sD25, mS_sD25, mI_sDs1640, mS_sDs1640, mI_sDs1641, mS_sDs1641, mI_sDs1642, mS_sDs1642, mI_sDs1666, mS_sDs1666, mI_sDs1667, mS_sDs1667, vi440, cl440, vi441, cl441, vi442, cl442, vi443, cl443, vi444, cl444, vi445, cl445, vi446, cl446, vi447, cl447, vi448, cl448, vi449, cl449, vi450, cl450, forall_eq, Option.some.injEq, exists_eq_left', true_and, m30, m11, m6, m4, nI_add, p1, p2, p3, p4, p5, p6, p7, p8, p9, p10, p11, p440, vin, cl, nle, nlt, neq, nI_i1, dU_ne, hP, hg, and_true]
      exact ⟨fun _ => rfl, fun h => absurd (Nat.le_refl _) h⟩
    | succ t ih =>
      intro j hj hg
      conv at hg => rhs; rw [g_freeU]
      refine sg_Md_propose_38 ?_
      simp (disch := omega) only [mKd_sD, mLn_sD, mR_sD, md_K H, md_R1 H, md_K1 H, md_L1 H, mI_sD1, mS_sD1, md_R2 H, md_K2 H, md_L2 H, mI_sD2, mS_sD2, md_R3 H, md_K3 H, md_L3 H, mI_sD3, mS_sD3, md_R4 H, md_K4 H, md_L4 H, mI_sD4, mS_sD4, md_R5 H, md_K5 H, md_L5 H, mI_sD5, mS_sD5, md_R6 H, md_K6 H, md_L6 H, mI_sD6, mS_sD6, md_R7 H, md_K7 H, md_L7 H, mI_sD7, mS_sD7, md_R8 H, md_K8 H, md_L8 H, mI_sD8, mS_sD8, md_R9 H, md_K9 H, md_L9 H, mI_sD9, mS_sD9, md_R10 H, md_K10 H, md_L10 H, mI_sD10, mS_sD10, md_R11 H, md_K11 H, md_L11 H, mI_sD11, mS_sD11, md_R12 H, md_K12 H, md_L12 H, mI_sD12, mS_sD12, md_R13 H, md_K13 H, md_L13 H, mI_sD13, mS_sD13, md_R14 H, md_K14 H, md_L14 H, mI_sD14, mS_sD14, md_R15 H, md_K15 H, md_L15 H, mI_sD15, mS_sD15, md_R16 H, md_K16 H, md_L16 H, mI_sD16, mS_sD16, md_R17 H, md_K17 H, md_L17 H, mI_sD17, mS_sD17, md_R18 H, md_K18 H, md_L18 H, mI_sD18, mS_sD18, md_R19 H, md_K19 H, md_L19 H, mI_sD19, mS_sD19, md_R20 H, md_K20 H, md_L20 H, mI_sD20, mS_sD20, md_R21 H, md_K21 H, md_L21 H, mI_sD21, mS_sD21, md_R22 H, md_K22 H, md_L22 H, mI_sD22, mS_sD22, md_R23 H, md_K23 H, md_L23 H, mI_sD23, mS_sD23, md_R24 H, md_K24 H, md_L24 H, mI_sD24, mS_sD24, md_R25 H, md_K25 H, md_L25 H, mI_sD25, mS_sD25, mI_sDs1640, mS_sDs1640, mI_sDs1641, mS_sDs1641, mI_sDs1642, mS_sDs1642, mI_sDs1666, mS_sDs1666, mI_sDs1667, mS_sDs1667, vi440, cl440, vi441, cl441, vi442, cl442, vi443, cl443, vi444, cl444, vi445, cl445, vi446, cl446, vi447, cl447, vi448, cl448, vi449, cl449, vi450, cl450, forall_eq, Option.some.injEq, exists_eq_left', true_and, m30, m11, m6, m4, nI_add, p1, p2, p3, p4, p5, p6, p7, p8, p9, p10, p11, p440, vin, cl, nle, nlt, neq, nI_i1, dU_ne, a4]
      have nxt : ¬ (D 4 (30 * r + (6 * r + j)) = 0 ∧ D 9 (30 * r + (6 * r + j)) = 0) → EX eL X_Md_propose 38 [some (.inr (some m)), some (.inl (nI r)), some (.inl (nI key)), some (.inl p), some (.inl x), some (.inl (nI (6 * r + j + 1))), none, none] [] (sD M m D) (fun w N => w = some (.inl (oI (g_freeU D r 6 0))) ∧ N = sD M m (g_propose D n r key (decide (¬ p = 0)) x)) := by
        intro hx
        rw [if_neg hx] at hg
        exact ih (j + 1) (by omega) hg
      refine ⟨fun h => absurd h (by omega), fun _ => ⟨fun h => nxt (fun z => h z.1), fun h => ⟨fun h2 => nxt (fun z => h2 z.2), fun h2 => ?_⟩⟩⟩
      rw [if_pos ⟨h, h2⟩] at hg
      have hi : 6 * r + j < 30 := by omega
      have hP : g_propose D n r key (decide (¬ p = 0)) x = g_begin D n r (6 * r + j) key (decide (¬ p = 0)) x := by unfold g_propose; rw [hg]
      have fin : ∀ c v : Int32, c = nI (if decide (¬ p = 0) = true then 4 + key else key) → v = (if decide (¬ p = 0) = true then x else 0) → EX eL X_Md_fit 0 [some (.inr (some m)), some (.inl (nI r)), some (.inl (nI (6 * r + j))), some (.inl c), some (.inl v), some (.inl 1), some (.inl 0), none, none, none] [] (sD M m D)
          (fun w N => w = none ∧ mKd N m = 11 ∧ EX eL X_Md_start 0 [some (.inr (some m)), some (.inl (nI (30 * r + (6 * r + j)))), some (.inl 0), some (.inl 0)] [] N (fun w N => w = none ∧ EX eL X_Md_propose 120 [some (.inr (some m)), some (.inl (nI r)), none, none, none, some (.inl (nI (6 * r + j))), none, some (.inl 1)] [] N (fun w N => w = some (.inl (oI (g_freeU D r 6 0))) ∧ N = sD M m (g_propose D n r key (decide (¬ p = 0)) x)))) := by
        intro c v hc hv
        refine EX.mono (c_Md_fit H hI hn (by omega) hi) fun w N hw => ?_
        obtain ⟨rfl, rfl⟩ := hw
        refine ⟨rfl, md_K H, EX.mono (c_Md_start H (by omega)) fun w N hw => ?_⟩
        obtain ⟨rfl, rfl⟩ := hw
        refine ⟨rfl, c_Md_propose2 H (n := n) (by simp (disch := omega) only [g_start_ne, g_fit_ne]; exact hN) hn hn2 (hu.to (by simp (disch := omega) only [g_start_ne, g_fit_ne])) (by omega) hi ⟨by rw [hg]; rfl, ?_⟩⟩
        rw [hP, g_begin, hc, hv]
      refine ⟨fun h3 => ⟨fun _ => ?_, fun h4 => absurd h3 h4⟩, fun h3 => ⟨fun h4 => absurd h4 h3, fun _ => ?_⟩⟩
      · exact fin _ _ (by rw [if_neg (by simp [h3])]) (by rw [if_neg (by simp [h3])])
      · exact fin _ _ (by rw [if_pos (by simp [h3])]) (by rw [if_pos (by simp [h3])])
  have h3k : ¬ (3 : Int32) < nI key := fun z => by have := (nlt (a := 3) (b := key) (by decide) (by omega)).mp z; omega
  simp (disch := omega) only [mKd_sD, mLn_sD, mR_sD, md_K H, md_R1 H, md_K1 H, md_L1 H, mI_sD1, mS_sD1, md_R2 H, md_K2 H, md_L2 H, mI_sD2, mS_sD2, md_R3 H, md_K3 H, md_L3 H, mI_sD3, mS_sD3, md_R4 H, md_K4 H, md_L4 H, mI_sD4, mS_sD4, md_R5 H, md_K5 H, md_L5 H, mI_sD5, mS_sD5, md_R6 H, md_K6 H, md_L6 H, mI_sD6, mS_sD6, md_R7 H, md_K7 H, md_L7 H, mI_sD7, mS_sD7, md_R8 H, md_K8 H, md_L8 H, mI_sD8, mS_sD8, md_R9 H, md_K9 H, md_L9 H, mI_sD9, mS_sD9, md_R10 H, md_K10 H, md_L10 H, mI_sD10, mS_sD10, md_R11 H, md_K11 H, md_L11 H, mI_sD11, mS_sD11, md_R12 H, md_K12 H, md_L12 H, mI_sD12, mS_sD12, md_R13 H, md_K13 H, md_L13 H, mI_sD13, mS_sD13, md_R14 H, md_K14 H, md_L14 H, mI_sD14, mS_sD14, md_R15 H, md_K15 H, md_L15 H, mI_sD15, mS_sD15, md_R16 H, md_K16 H, md_L16 H, mI_sD16, mS_sD16, md_R17 H, md_K17 H, md_L17 H, mI_sD17, mS_sD17, md_R18 H, md_K18 H, md_L18 H, mI_sD18, mS_sD18, md_R19 H, md_K19 H, md_L19 H, mI_sD19, mS_sD19, md_R20 H, md_K20 H, md_L20 H, mI_sD20, mS_sD20, md_R21 H, md_K21 H, md_L21 H, mI_sD21, mS_sD21, md_R22 H, md_K22 H, md_L22 H, mI_sD22, mS_sD22, md_R23 H, md_K23 H, md_L23 H, mI_sD23, mS_sD23, md_R24 H, md_K24 H, md_L24 H, mI_sD24, mS_sD24, md_R25 H, md_K25 H, md_L25 H, mI_sD25, mS_sD25, mI_sDs1640, mS_sDs1640, mI_sDs1641, mS_sDs1641, mI_sDs1642, mS_sDs1642, mI_sDs1666, mS_sDs1666, mI_sDs1667, mS_sDs1667, vi440, cl440, vi441, cl441, vi442, cl442, vi443, cl443, vi444, cl444, vi445, cl445, vi446, cl446, vi447, cl447, vi448, cl448, vi449, cl449, vi450, cl450, forall_eq, Option.some.injEq, exists_eq_left', true_and, m30, m11, m6, m4, nI_add, p1, p2, p3, p4, p5, p6, p7, p8, p9, p10, p11, p440, vin, cl, nle, nlt, neq, nI_i1, dU_ne, hN, hc]
  refine ⟨fun h => absurd h (nI_pos (by omega)), fun _ => ⟨fun h => absurd h (by omega), fun _ => ⟨fun h => absurd h (nI_pos (by omega)), fun _ => ⟨fun h => absurd h h3k, fun _ => ?_⟩⟩⟩⟩
  first
    | exact loop 6 0 (by omega) rfl
    | exact ⟨fun _ => loop 6 0 (by omega) rfl, fun h => absurd rfl h⟩
    | exact ⟨fun _ => loop 6 0 (by omega) rfl, fun h => absurd trivial h⟩
theorem c_Md_prepare_bad (H : mdl M m) (hN : D 1640 0 = nI n) (hI : D 1642 0 = nI (6 * n)) (hn : n ≤ 5) {v w : Int32} (hb : ¬ ∃ r i, r < n ∧ i < 6 * n ∧ v = nI r ∧ w = nI i ∧ D 1 r = 0 ∧ D 4 (30 * r + i) < 3) : EX eL X_Md_prepare 0 [some (.inr (some m)), some (.inl v), some (.inl w), none, none] [] (sD M m D) (fun x N => x = some (.inl (-1)) ∧ N = sD M m D) := by
  refine sg_Md_prepare_0 ⟨md_K H, EX.mono (c_Md_known H hN hI) fun x N hv => ?_⟩
  obtain ⟨rfl, rfl⟩ := hv
  refine ⟨_, rfl, fun _ => ⟨rfl, rfl⟩, fun h => ?_⟩
  have h9 := b01_1 h
  rw [decide_eq_true_eq] at h9
  obtain ⟨r, i, hr, hi, rfl, rfl⟩ := kn_of hn h9
  simp (disch := omega) only [mKd_sD, mLn_sD, mR_sD, md_K H, md_R1 H, md_K1 H, md_L1 H, mI_sD1, mS_sD1, md_R2 H, md_K2 H, md_L2 H, mI_sD2, mS_sD2, md_R3 H, md_K3 H, md_L3 H, mI_sD3, mS_sD3, md_R4 H, md_K4 H, md_L4 H, mI_sD4, mS_sD4, md_R5 H, md_K5 H, md_L5 H, mI_sD5, mS_sD5, md_R6 H, md_K6 H, md_L6 H, mI_sD6, mS_sD6, md_R7 H, md_K7 H, md_L7 H, mI_sD7, mS_sD7, md_R8 H, md_K8 H, md_L8 H, mI_sD8, mS_sD8, md_R9 H, md_K9 H, md_L9 H, mI_sD9, mS_sD9, md_R10 H, md_K10 H, md_L10 H, mI_sD10, mS_sD10, md_R11 H, md_K11 H, md_L11 H, mI_sD11, mS_sD11, md_R12 H, md_K12 H, md_L12 H, mI_sD12, mS_sD12, md_R13 H, md_K13 H, md_L13 H, mI_sD13, mS_sD13, md_R14 H, md_K14 H, md_L14 H, mI_sD14, mS_sD14, md_R15 H, md_K15 H, md_L15 H, mI_sD15, mS_sD15, md_R16 H, md_K16 H, md_L16 H, mI_sD16, mS_sD16, md_R17 H, md_K17 H, md_L17 H, mI_sD17, mS_sD17, md_R18 H, md_K18 H, md_L18 H, mI_sD18, mS_sD18, md_R19 H, md_K19 H, md_L19 H, mI_sD19, mS_sD19, md_R20 H, md_K20 H, md_L20 H, mI_sD20, mS_sD20, md_R21 H, md_K21 H, md_L21 H, mI_sD21, mS_sD21, md_R22 H, md_K22 H, md_L22 H, mI_sD22, mS_sD22, md_R23 H, md_K23 H, md_L23 H, mI_sD23, mS_sD23, md_R24 H, md_K24 H, md_L24 H, mI_sD24, mS_sD24, md_R25 H, md_K25 H, md_L25 H, mI_sD25, mS_sD25, mI_sDs1640, mS_sDs1640, mI_sDs1641, mS_sDs1641, mI_sDs1642, mS_sDs1642, mI_sDs1666, mS_sDs1666, mI_sDs1667, mS_sDs1667, vi440, cl440, vi441, cl441, vi442, cl442, vi443, cl443, vi444, cl444, vi445, cl445, vi446, cl446, vi447, cl447, vi448, cl448, vi449, cl449, vi450, cl450, forall_eq, Option.some.injEq, exists_eq_left', true_and, m30, m11, m6, m4, nI_add, p1, p2, p3, p4, p5, p6, p7, p8, p9, p10, p11, p440, vin, cl, nle, nlt, neq, nI_i1, dU_ne, and_true]
  exact ⟨fun _ => trivial, fun h1 => ⟨fun h2 => absurd ⟨r, i, hr, hi, rfl, rfl, h1, h2⟩ hb, fun _ => trivial⟩⟩
theorem g_ballotU_ge (n r : Nat) : ∀ k b, b ≤ g_ballotU n r k b := by
  intro k
  induction k with
  | zero => intro b; exact Nat.le_refl _
  | succ k ih =>
    intro b
    rw [g_ballotU]
    split
    · exact Nat.le_refl _
    · have := ih (b + 1); omega
theorem g_ballotU_le (n r : Nat) : ∀ k b, g_ballotU n r k b ≤ b + k := by
  intro k
  induction k with
  | zero => intro b; exact Nat.le_refl _
  | succ k ih =>
    intro b
    rw [g_ballotU]
    split
    · omega
    · have := ih (b + 1); omega
theorem c_Md_prepare_ok (H : mdl M m) (hN : D 1640 0 = nI n) (hI : D 1642 0 = nI (6 * n)) (hn : n ≤ 5) (hu : uOK D) (hr : r < n) (hi : i < 6 * n) (hcr : D 1 r = 0) (hst : D 4 (30 * r + i) < 3) {p : Nat} (hp : D 9 (30 * r + i) = nI p) (hp9 : p < 1000000) : EX eL X_Md_prepare 0 [some (.inr (some m)), some (.inl (nI r)), some (.inl (nI i)), none, none] [] (sD M m D) (fun x N => x = some (.inl (g_ballot D n r i)) ∧ N = sD M m (g_prepare D n r i)) := by
  have hg : g_ballot D n r i = nI (g_ballotU n r n (p + 1)) := by unfold g_ballot g_nat; rw [hp, cl (by omega)]
  have loop : ∀ k b, b + k < 2000000 → (∃ j, j < k ∧ (b + j) % n = r) → g_ballotU n r n (p + 1) = g_ballotU n r k b → EX eL X_Md_prepare 52 [some (.inr (some m)), some (.inl (nI r)), some (.inl (nI i)), some (.inl (nI (30 * r + i))), some (.inl (nI b))] [] (sD M m D) (fun x N => x = some (.inl (g_ballot D n r i)) ∧ N = sD M m (g_prepare D n r i)) := by
    intro k
    induction k with
    | zero => rintro b - ⟨j, hj, -⟩; omega
    | succ k ih =>
      rintro b hb ⟨j, hj, hjr⟩ he
      rw [g_ballotU] at he
      refine sg_Md_prepare_52 ?_
      simp (disch := omega) only [mKd_sD, mLn_sD, mR_sD, md_K H, md_R1 H, md_K1 H, md_L1 H, mI_sD1, mS_sD1, md_R2 H, md_K2 H, md_L2 H, mI_sD2, mS_sD2, md_R3 H, md_K3 H, md_L3 H, mI_sD3, mS_sD3, md_R4 H, md_K4 H, md_L4 H, mI_sD4, mS_sD4, md_R5 H, md_K5 H, md_L5 H, mI_sD5, mS_sD5, md_R6 H, md_K6 H, md_L6 H, mI_sD6, mS_sD6, md_R7 H, md_K7 H, md_L7 H, mI_sD7, mS_sD7, md_R8 H, md_K8 H, md_L8 H, mI_sD8, mS_sD8, md_R9 H, md_K9 H, md_L9 H, mI_sD9, mS_sD9, md_R10 H, md_K10 H, md_L10 H, mI_sD10, mS_sD10, md_R11 H, md_K11 H, md_L11 H, mI_sD11, mS_sD11, md_R12 H, md_K12 H, md_L12 H, mI_sD12, mS_sD12, md_R13 H, md_K13 H, md_L13 H, mI_sD13, mS_sD13, md_R14 H, md_K14 H, md_L14 H, mI_sD14, mS_sD14, md_R15 H, md_K15 H, md_L15 H, mI_sD15, mS_sD15, md_R16 H, md_K16 H, md_L16 H, mI_sD16, mS_sD16, md_R17 H, md_K17 H, md_L17 H, mI_sD17, mS_sD17, md_R18 H, md_K18 H, md_L18 H, mI_sD18, mS_sD18, md_R19 H, md_K19 H, md_L19 H, mI_sD19, mS_sD19, md_R20 H, md_K20 H, md_L20 H, mI_sD20, mS_sD20, md_R21 H, md_K21 H, md_L21 H, mI_sD21, mS_sD21, md_R22 H, md_K22 H, md_L22 H, mI_sD22, mS_sD22, md_R23 H, md_K23 H, md_L23 H, mI_sD23, mS_sD23, md_R24 H, md_K24 H, md_L24 H, mI_sD24, mS_sD24, md_R25 H, md_K25 H, md_L25 H, mI_sD25, mS_sD25, mI_sDs1640, mS_sDs1640, mI_sDs1641, mS_sDs1641, mI_sDs1642, mS_sDs1642, mI_sDs1666, mS_sDs1666, mI_sDs1667, mS_sDs1667, vi440, cl440, vi441, cl441, vi442, cl442, vi443, cl443, vi444, cl444, vi445, cl445, vi446, cl446, vi447, cl447, vi448, cl448, vi449, cl449, vi450, cl450, forall_eq, Option.some.injEq, exists_eq_left', true_and, m30, m11, m6, m4, nI_add, p1, p2, p3, p4, p5, p6, p7, p8, p9, p10, p11, p440, vin, cl, nle, nlt, neq, nI_i1, dU_ne, hN]
      refine ⟨nne0 (by omega) (by omega), fun h => ?_, fun h => ?_⟩
      · rw [nrem (by omega) (by omega) (by omega), neq (by have := Nat.mod_lt b (show 0 < n by omega); omega) (by omega)] at h
        rw [if_pos h] at he
        have hbb : nI b = g_ballot D n r i := by rw [hg, he]
        rw [hbb]
        refine EX.mono (c_Md_start H (by omega)) fun w N hv => ?_
        obtain ⟨rfl, rfl⟩ := hv
        refine ⟨rfl, md_K H, EX.mono (c_Md_sendAll H (n := n) (by simp (disch := omega) only [g_start_ne, dU_ne]; exact hN) hn (hu.to (by simp (disch := omega) only [g_start_ne, dU_ne])) (by omega) (by omega)) fun w N hv => ?_⟩
        obtain ⟨rfl, rfl⟩ := hv
        exact ⟨rfl, rfl, rfl⟩
      · rw [nrem (by omega) (by omega) (by omega), neq (by have := Nat.mod_lt b (show 0 < n by omega); omega) (by omega)] at h
        rw [if_neg h] at he
        refine ih (b + 1) (by omega) ⟨j - 1, ?_, ?_⟩ he
        · rcases j with _ | j
          · exact absurd hjr h
          · omega
        · rcases j with _ | j
          · exact absurd hjr h
          · rw [← hjr]; congr 1; omega
  refine sg_Md_prepare_0 ⟨md_K H, EX.mono (c_Md_known H hN hI) fun x N hv => ?_⟩
  obtain ⟨rfl, rfl⟩ := hv
  refine ⟨_, rfl, fun h => absurd h (b01t (kn_ok hn hr hi)), fun _ => ?_⟩
  simp (disch := omega) only [mKd_sD, mLn_sD, mR_sD, md_K H, md_R1 H, md_K1 H, md_L1 H, mI_sD1, mS_sD1, md_R2 H, md_K2 H, md_L2 H, mI_sD2, mS_sD2, md_R3 H, md_K3 H, md_L3 H, mI_sD3, mS_sD3, md_R4 H, md_K4 H, md_L4 H, mI_sD4, mS_sD4, md_R5 H, md_K5 H, md_L5 H, mI_sD5, mS_sD5, md_R6 H, md_K6 H, md_L6 H, mI_sD6, mS_sD6, md_R7 H, md_K7 H, md_L7 H, mI_sD7, mS_sD7, md_R8 H, md_K8 H, md_L8 H, mI_sD8, mS_sD8, md_R9 H, md_K9 H, md_L9 H, mI_sD9, mS_sD9, md_R10 H, md_K10 H, md_L10 H, mI_sD10, mS_sD10, md_R11 H, md_K11 H, md_L11 H, mI_sD11, mS_sD11, md_R12 H, md_K12 H, md_L12 H, mI_sD12, mS_sD12, md_R13 H, md_K13 H, md_L13 H, mI_sD13, mS_sD13, md_R14 H, md_K14 H, md_L14 H, mI_sD14, mS_sD14, md_R15 H, md_K15 H, md_L15 H, mI_sD15, mS_sD15, md_R16 H, md_K16 H, md_L16 H, mI_sD16, mS_sD16, md_R17 H, md_K17 H, md_L17 H, mI_sD17, mS_sD17, md_R18 H, md_K18 H, md_L18 H, mI_sD18, mS_sD18, md_R19 H, md_K19 H, md_L19 H, mI_sD19, mS_sD19, md_R20 H, md_K20 H, md_L20 H, mI_sD20, mS_sD20, md_R21 H, md_K21 H, md_L21 H, mI_sD21, mS_sD21, md_R22 H, md_K22 H, md_L22 H, mI_sD22, mS_sD22, md_R23 H, md_K23 H, md_L23 H, mI_sD23, mS_sD23, md_R24 H, md_K24 H, md_L24 H, mI_sD24, mS_sD24, md_R25 H, md_K25 H, md_L25 H, mI_sD25, mS_sD25, mI_sDs1640, mS_sDs1640, mI_sDs1641, mS_sDs1641, mI_sDs1642, mS_sDs1642, mI_sDs1666, mS_sDs1666, mI_sDs1667, mS_sDs1667, vi440, cl440, vi441, cl441, vi442, cl442, vi443, cl443, vi444, cl444, vi445, cl445, vi446, cl446, vi447, cl447, vi448, cl448, vi449, cl449, vi450, cl450, forall_eq, Option.some.injEq, exists_eq_left', true_and, m30, m11, m6, m4, nI_add, p1, p2, p3, p4, p5, p6, p7, p8, p9, p10, p11, p440, vin, cl, nle, nlt, neq, nI_i1, dU_ne, hp]
  refine ⟨fun h => absurd hcr h, fun _ => ⟨fun _ => ?_, fun h => absurd hst h⟩⟩
  refine loop n (p + 1) (by omega) ⟨(r + n - (p + 1) % n) % n, Nat.mod_lt _ (by omega), ?_⟩ rfl
  have h1 := Nat.mod_lt (p + 1) (show 0 < n by omega)
  have h2 := Nat.div_add_mod (p + 1) n
  rw [Nat.add_mod_mod]
  have h3 : p + 1 + (r + n - (p + 1) % n) = r + n * ((p + 1) / n + 1) := by
    rw [Nat.mul_add]; omega
  rw [h3, Nat.add_mul_mod_self_left, Nat.mod_eq_of_lt hr]
end MC11
