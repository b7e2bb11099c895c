section MC8
variable {M : me_M} {m : Nat} {D : me_D} {n r i : Nat}
theorem g_own_ne {a c j x : Nat} (h : j < 17 ∨ 23 < j) : g_own D r a c j x = D j x := by
  unfold g_own
  simp (disch := omega) only [dU_ne]
theorem m1nle : ¬ ((0 : Int32) ≤ -1) := by decide
set_option maxHeartbeats 4000000 in
theorem c_Md_afterPromise (H : mdl M m) (hN : D 1640 0 = nI n) (hF : D 1641 0 = nI (n / 2)) (hI : D 1642 0 = nI (6 * n)) (hn : n ≤ 5) (hu : uOK D) (hr : r < 5) (hi : i < 30) {c : Nat} (hc : D 16 (30 * r + i) = nI c) (hc3 : c ≤ 3) : EX eL X_Md_afterPromise 0 [some (.inr (some m)), some (.inl (nI r)), some (.inl (nI i)), none, none, none, none] [] (sD M m D) (fun w N => w = none ∧ N = sD M m (g_afterPromise D n r i)) := by
  have hg : g_ct D (30 * r + i) = c := by unfold g_ct; rw [hc]; exact cl (by omega)
  refine sg_Md_afterPromise_0 ?_
  simp (maxSteps := 2000000) (disch := omega) only [mKd_sD, mLn_sD, mR_sD, md_K H, md_R1 H, md_K1 H, md_L1 H, mI_sD1, mS_sD1, md_R2 H, md_K2 H, md_L2 H, mI_sD2, mS_sD2, md_R3 H, md_K3 H, md_L3 H, mI_sD3, mS_sD3, md_R4 H, md_K4 H, md_L4 H, mI_sD4, mS_sD4, md_R5 H, md_K5 H, md_L5 H, mI_sD5, mS_sD5, md_R6 H, md_K6 H, md_L6 H, mI_sD6, mS_sD6, md_R7 H, md_K7 H, md_L7 H, mI_sD7, mS_sD7, md_R8 H, md_K8 H, md_L8 H, mI_sD8, mS_sD8, md_R9 H, md_K9 H, md_L9 H, mI_sD9, mS_sD9, md_R10 H, md_K10 H, md_L10 H, mI_sD10, mS_sD10, md_R11 H, md_K11 H, md_L11 H, mI_sD11, mS_sD11, md_R12 H, md_K12 H, md_L12 H, mI_sD12, mS_sD12, md_R13 H, md_K13 H, md_L13 H, mI_sD13, mS_sD13, md_R14 H, md_K14 H, md_L14 H, mI_sD14, mS_sD14, md_R15 H, md_K15 H, md_L15 H, mI_sD15, mS_sD15, md_R16 H, md_K16 H, md_L16 H, mI_sD16, mS_sD16, md_R17 H, md_K17 H, md_L17 H, mI_sD17, mS_sD17, md_R18 H, md_K18 H, md_L18 H, mI_sD18, mS_sD18, md_R19 H, md_K19 H, md_L19 H, mI_sD19, mS_sD19, md_R20 H, md_K20 H, md_L20 H, mI_sD20, mS_sD20, md_R21 H, md_K21 H, md_L21 H, mI_sD21, mS_sD21, md_R22 H, md_K22 H, md_L22 H, mI_sD22, mS_sD22, md_R23 H, md_K23 H, md_L23 H, mI_sD23, mS_sD23, md_R24 H, md_K24 H, md_L24 H, mI_sD24, mS_sD24, md_R25 H, md_K25 H, md_L25 H, mI_sD25, mS_sD25, mI_sDs1640, mS_sDs1640, mI_sDs1641, mS_sDs1641, mI_sDs1642, mS_sDs1642, mI_sDs1666, mS_sDs1666, mI_sDs1667, mS_sDs1667, vi440, cl440, vi441, cl441, vi442, cl442, vi443, cl443, vi444, cl444, vi445, cl445, vi446, cl446, vi447, cl447, vi448, cl448, vi449, cl449, vi450, cl450, forall_eq, Option.some.injEq, exists_eq_left', true_and, m30, m11, m6, m4, nI_add, p1, p2, p3, p4, p5, p6, p7, p8, p9, p10, p11, p440, vin, cl, nle, nlt, neq, nI_i1, dU_ne, hc, hF]
  generalize hR : g_afterPromise D n r i = RES
  unfold g_afterPromise at hR
  rw [hg] at hR
  dsimp only at hR
  have eN : g_own D r (30 * r + i) c 1640 0 = nI n := by rw [g_own_ne (by omega)]; exact hN
  have eF : g_own D r (30 * r + i) c 1641 0 = nI (n / 2) := by rw [g_own_ne (by omega)]; exact hF
  have eI : g_own D r (30 * r + i) c 1642 0 = nI (6 * n) := by rw [g_own_ne (by omega)]; exact hI
  have eU : uOK (g_own D r (30 * r + i) c) := hu.to (g_own_ne (by omega))
  refine EX.mono (c_Md_accepted (D := g_own D r (30 * r + i) c) H (by omega)) fun w N hv => ?_
  obtain ⟨rfl, rfl⟩ := hv
  generalize g_own D r (30 * r + i) c = E at *
  refine ⟨_, rfl, ?_⟩
  have agree : ∀ b, b < 600 → g_agree E n r i (E 19 b) (E 20 b) (E 21 b) (E 22 b) = RES → EX eL X_Md_agree 0 [some (.inr (some m)), some (.inl (nI r)), some (.inl (nI i)), some (.inl (E 19 b)), some (.inl (E 20 b)), some (.inl (E 21 b)), some (.inl (E 22 b)), none] [] (sD M m E) (fun w N => w = none ∧ N = sD M m RES) := by
    intro b hb he
    refine EX.mono (c_Md_agree H eN hn eU hr hi) fun w N hv => ?_
    obtain ⟨rfl, rfl⟩ := hv
    exact ⟨rfl, by rw [he]⟩
  cases hacc : g_accU E (4 * (30 * r + i)) (n / 2 + 1) with
  | some b =>
    have hb := g_accU_lt hacc
    refine ⟨fun _ => ⟨fun h => absurd h (nI_pos (by omega)), fun _ => ?_⟩, fun h => absurd (nI_pos' (by omega)) h⟩
    simp (disch := omega) only [mKd_sD, mLn_sD, mR_sD, md_K H, md_R1 H, md_K1 H, md_L1 H, mI_sD1, mS_sD1, md_R2 H, md_K2 H, md_L2 H, mI_sD2, mS_sD2, md_R3 H, md_K3 H, md_L3 H, mI_sD3, mS_sD3, md_R4 H, md_K4 H, md_L4 H, mI_sD4, mS_sD4, md_R5 H, md_K5 H, md_L5 H, mI_sD5, mS_sD5, md_R6 H, md_K6 H, md_L6 H, mI_sD6, mS_sD6, md_R7 H, md_K7 H, md_L7 H, mI_sD7, mS_sD7, md_R8 H, md_K8 H, md_L8 H, mI_sD8, mS_sD8, md_R9 H, md_K9 H, md_L9 H, mI_sD9, mS_sD9, md_R10 H, md_K10 H, md_L10 H, mI_sD10, mS_sD10, md_R11 H, md_K11 H, md_L11 H, mI_sD11, mS_sD11, md_R12 H, md_K12 H, md_L12 H, mI_sD12, mS_sD12, md_R13 H, md_K13 H, md_L13 H, mI_sD13, mS_sD13, md_R14 H, md_K14 H, md_L14 H, mI_sD14, mS_sD14, md_R15 H, md_K15 H, md_L15 H, mI_sD15, mS_sD15, md_R16 H, md_K16 H, md_L16 H, mI_sD16, mS_sD16, md_R17 H, md_K17 H, md_L17 H, mI_sD17, mS_sD17, md_R18 H, md_K18 H, md_L18 H, mI_sD18, mS_sD18, md_R19 H, md_K19 H, md_L19 H, mI_sD19, mS_sD19, md_R20 H, md_K20 H, md_L20 H, mI_sD20, mS_sD20, md_R21 H, md_K21 H, md_L21 H, mI_sD21, mS_sD21, md_R22 H, md_K22 H, md_L22 H, mI_sD22, mS_sD22, md_R23 H, md_K23 H, md_L23 H, mI_sD23, mS_sD23, md_R24 H, md_K24 H, md_L24 H, mI_sD24, mS_sD24, md_R25 H, md_K25 H, md_L25 H, mI_sD25, mS_sD25, mI_sDs1640, mS_sDs1640, mI_sDs1641, mS_sDs1641, mI_sDs1642, mS_sDs1642, mI_sDs1666, mS_sDs1666, mI_sDs1667, mS_sDs1667, vi440, cl440, vi441, cl441, vi442, cl442, vi443, cl443, vi444, cl444, vi445, cl445, vi446, cl446, vi447, cl447, vi448, cl448, vi449, cl449, vi450, cl450, forall_eq, Option.some.injEq, exists_eq_left', true_and, m30, m11, m6, m4, nI_add, p1, p2, p3, p4, p5, p6, p7, p8, p9, p10, p11, p440, vin, cl, nle, nlt, neq, nI_i1, dU_ne, oI]
    exact agree b (by omega) (by rw [← hR, g_best, hacc])
  | none =>
    refine ⟨fun h => absurd h m1nle, fun _ => ?_⟩
    simp (disch := omega) only [mKd_sD, mLn_sD, mR_sD, md_K H, md_R1 H, md_K1 H, md_L1 H, mI_sD1, mS_sD1, md_R2 H, md_K2 H, md_L2 H, mI_sD2, mS_sD2, md_R3 H, md_K3 H, md_L3 H, mI_sD3, mS_sD3, md_R4 H, md_K4 H, md_L4 H, mI_sD4, mS_sD4, md_R5 H, md_K5 H, md_L5 H, mI_sD5, mS_sD5, md_R6 H, md_K6 H, md_L6 H, mI_sD6, mS_sD6, md_R7 H, md_K7 H, md_L7 H, mI_sD7, mS_sD7, md_R8 H, md_K8 H, md_L8 H, mI_sD8, mS_sD8, md_R9 H, md_K9 H, md_L9 H, mI_sD9, mS_sD9, md_R10 H, md_K10 H, md_L10 H, mI_sD10, mS_sD10, md_R11 H, md_K11 H, md_L11 H, mI_sD11, mS_sD11, md_R12 H, md_K12 H, md_L12 H, mI_sD12, mS_sD12, md_R13 H, md_K13 H, md_L13 H, mI_sD13, mS_sD13, md_R14 H, md_K14 H, md_L14 H, mI_sD14, mS_sD14, md_R15 H, md_K15 H, md_L15 H, mI_sD15, mS_sD15, md_R16 H, md_K16 H, md_L16 H, mI_sD16, mS_sD16, md_R17 H, md_K17 H, md_L17 H, mI_sD17, mS_sD17, md_R18 H, md_K18 H, md_L18 H, mI_sD18, mS_sD18, md_R19 H, md_K19 H, md_L19 H, mI_sD19, mS_sD19, md_R20 H, md_K20 H, md_L20 H, mI_sD20, mS_sD20, md_R21 H, md_K21 H, md_L21 H, mI_sD21, mS_sD21, md_R22 H, md_K22 H, md_L22 H, mI_sD22, mS_sD22, md_R23 H, md_K23 H, md_L23 H, mI_sD23, mS_sD23, md_R24 H, md_K24 H, md_L24 H, mI_sD24, mS_sD24, md_R25 H, md_K25 H, md_L25 H, mI_sD25, mS_sD25, mI_sDs1640, mS_sDs1640, mI_sDs1641, mS_sDs1641, mI_sDs1642, mS_sDs1642, mI_sDs1666, mS_sDs1666, mI_sDs1667, mS_sDs1667, vi440, cl440, vi441, cl441, vi442, cl442, vi443, cl443, vi444, cl444, vi445, cl445, vi446, cl446, vi447, cl447, vi448, cl448, vi449, cl449, vi450, cl450, forall_eq, Option.some.injEq, exists_eq_left', true_and, m30, m11, m6, m4, nI_add, p1, p2, p3, p4, p5, p6, p7, p8, p9, p10, p11, p440, vin, cl, nle, nlt, neq, nI_i1, dU_ne, eF]
    refine EX.mono (c_Md_common H (by omega) hi) fun w N hv => ?_
    obtain ⟨rfl, rfl⟩ := hv
    refine ⟨_, rfl, ?_⟩
    cases hcom : g_common E (4 * (30 * r + i)) (n / 2 + 1) i with
    | some b =>
      have hb := g_first_at hcom
      refine ⟨fun h => absurd h (nI_pos (by omega)), fun _ => ?_⟩
      simp (disch := omega) only [mKd_sD, mLn_sD, mR_sD, md_K H, md_R1 H, md_K1 H, md_L1 H, mI_sD1, mS_sD1, md_R2 H, md_K2 H, md_L2 H, mI_sD2, mS_sD2, md_R3 H, md_K3 H, md_L3 H, mI_sD3, mS_sD3, md_R4 H, md_K4 H, md_L4 H, mI_sD4, mS_sD4, md_R5 H, md_K5 H, md_L5 H, mI_sD5, mS_sD5, md_R6 H, md_K6 H, md_L6 H, mI_sD6, mS_sD6, md_R7 H, md_K7 H, md_L7 H, mI_sD7, mS_sD7, md_R8 H, md_K8 H, md_L8 H, mI_sD8, mS_sD8, md_R9 H, md_K9 H, md_L9 H, mI_sD9, mS_sD9, md_R10 H, md_K10 H, md_L10 H, mI_sD10, mS_sD10, md_R11 H, md_K11 H, md_L11 H, mI_sD11, mS_sD11, md_R12 H, md_K12 H, md_L12 H, mI_sD12, mS_sD12, md_R13 H, md_K13 H, md_L13 H, mI_sD13, mS_sD13, md_R14 H, md_K14 H, md_L14 H, mI_sD14, mS_sD14, md_R15 H, md_K15 H, md_L15 H, mI_sD15, mS_sD15, md_R16 H, md_K16 H, md_L16 H, mI_sD16, mS_sD16, md_R17 H, md_K17 H, md_L17 H, mI_sD17, mS_sD17, md_R18 H, md_K18 H, md_L18 H, mI_sD18, mS_sD18, md_R19 H, md_K19 H, md_L19 H, mI_sD19, mS_sD19, md_R20 H, md_K20 H, md_L20 H, mI_sD20, mS_sD20, md_R21 H, md_K21 H, md_L21 H, mI_sD21, mS_sD21, md_R22 H, md_K22 H, md_L22 H, mI_sD22, mS_sD22, md_R23 H, md_K23 H, md_L23 H, mI_sD23, mS_sD23, md_R24 H, md_K24 H, md_L24 H, mI_sD24, mS_sD24, md_R25 H, md_K25 H, md_L25 H, mI_sD25, mS_sD25, mI_sDs1640, mS_sDs1640, mI_sDs1641, mS_sDs1641, mI_sDs1642, mS_sDs1642, mI_sDs1666, mS_sDs1666, mI_sDs1667, mS_sDs1667, vi440, cl440, vi441, cl441, vi442, cl442, vi443, cl443, vi444, cl444, vi445, cl445, vi446, cl446, vi447, cl447, vi448, cl448, vi449, cl449, vi450, cl450, forall_eq, Option.some.injEq, exists_eq_left', true_and, m30, m11, m6, m4, nI_add, p1, p2, p3, p4, p5, p6, p7, p8, p9, p10, p11, p440, vin, cl, nle, nlt, neq, nI_i1, dU_ne, oI]
      exact agree b (by omega) (by rw [← hR, g_best, hacc]; simp only [hcom])
    | none =>
      refine ⟨fun _ => ?_, fun h => absurd m1neg h⟩
      simp (disch := omega) only [mKd_sD, mLn_sD, mR_sD, md_K H, md_R1 H, md_K1 H, md_L1 H, mI_sD1, mS_sD1, md_R2 H, md_K2 H, md_L2 H, mI_sD2, mS_sD2, md_R3 H, md_K3 H, md_L3 H, mI_sD3, mS_sD3, md_R4 H, md_K4 H, md_L4 H, mI_sD4, mS_sD4, md_R5 H, md_K5 H, md_L5 H, mI_sD5, mS_sD5, md_R6 H, md_K6 H, md_L6 H, mI_sD6, mS_sD6, md_R7 H, md_K7 H, md_L7 H, mI_sD7, mS_sD7, md_R8 H, md_K8 H, md_L8 H, mI_sD8, mS_sD8, md_R9 H, md_K9 H, md_L9 H, mI_sD9, mS_sD9, md_R10 H, md_K10 H, md_L10 H, mI_sD10, mS_sD10, md_R11 H, md_K11 H, md_L11 H, mI_sD11, mS_sD11, md_R12 H, md_K12 H, md_L12 H, mI_sD12, mS_sD12, md_R13 H, md_K13 H, md_L13 H, mI_sD13, mS_sD13, md_R14 H, md_K14 H, md_L14 H, mI_sD14, mS_sD14, md_R15 H, md_K15 H, md_L15 H, mI_sD15, mS_sD15, md_R16 H, md_K16 H, md_L16 H, mI_sD16, mS_sD16, md_R17 H, md_K17 H, md_L17 H, mI_sD17, mS_sD17, md_R18 H, md_K18 H, md_L18 H, mI_sD18, mS_sD18, md_R19 H, md_K19 H, md_L19 H, mI_sD19, mS_sD19, md_R20 H, md_K20 H, md_L20 H, mI_sD20, mS_sD20, md_R21 H, md_K21 H, md_L21 H, mI_sD21, mS_sD21, md_R22 H, md_K22 H, md_L22 H, mI_sD22, mS_sD22, md_R23 H, md_K23 H, md_L23 H, mI_sD23, mS_sD23, md_R24 H, md_K24 H, md_L24 H, mI_sD24, mS_sD24, md_R25 H, md_K25 H, md_L25 H, mI_sD25, mS_sD25, mI_sDs1640, mS_sDs1640, mI_sDs1641, mS_sDs1641, mI_sDs1642, mS_sDs1642, mI_sDs1666, mS_sDs1666, mI_sDs1667, mS_sDs1667, vi440, cl440, vi441, cl441, vi442, cl442, vi443, cl443, vi444, cl444, vi445, cl445, vi446, cl446, vi447, cl447, vi448, cl448, vi449, cl449, vi450, cl450, forall_eq, Option.some.injEq, exists_eq_left', true_and, m30, m11, m6, m4, nI_add, p1, p2, p3, p4, p5, p6, p7, p8, p9, p10, p11, p440, vin, cl, nle, nlt, neq, nI_i1, dU_ne, eF]
      refine EX.mono (c_Md_preaccepted H (by omega)) fun w N hv => ?_
      obtain ⟨rfl, rfl⟩ := hv
      refine ⟨_, rfl, ?_⟩
      cases hpre : g_pre E (4 * (30 * r + i)) (n / 2 + 1) with
      | none =>
        refine ⟨fun h => absurd h m1nle, fun _ => ?_⟩
        refine ⟨md_K H, EX.mono (c_Md_agree H eN hn eU hr hi) fun w N hv => ?_⟩
        obtain ⟨rfl, rfl⟩ := hv
        exact ⟨rfl, by rw [← hR, g_best, hacc]; simp only [hcom, hpre]⟩
      | some b =>
        have hb := g_first_at hpre
        refine ⟨fun _ => ?_, fun h => absurd (nI_pos' (by omega)) h⟩
        simp (disch := omega) only [mKd_sD, mLn_sD, mR_sD, md_K H, md_R1 H, md_K1 H, md_L1 H, mI_sD1, mS_sD1, md_R2 H, md_K2 H, md_L2 H, mI_sD2, mS_sD2, md_R3 H, md_K3 H, md_L3 H, mI_sD3, mS_sD3, md_R4 H, md_K4 H, md_L4 H, mI_sD4, mS_sD4, md_R5 H, md_K5 H, md_L5 H, mI_sD5, mS_sD5, md_R6 H, md_K6 H, md_L6 H, mI_sD6, mS_sD6, md_R7 H, md_K7 H, md_L7 H, mI_sD7, mS_sD7, md_R8 H, md_K8 H, md_L8 H, mI_sD8, mS_sD8, md_R9 H, md_K9 H, md_L9 H, mI_sD9, mS_sD9, md_R10 H, md_K10 H, md_L10 H, mI_sD10, mS_sD10, md_R11 H, md_K11 H, md_L11 H, mI_sD11, mS_sD11, md_R12 H, md_K12 H, md_L12 H, mI_sD12, mS_sD12, md_R13 H, md_K13 H, md_L13 H, mI_sD13, mS_sD13, md_R14 H, md_K14 H, md_L14 H, mI_sD14, mS_sD14, md_R15 H, md_K15 H, md_L15 H, mI_sD15, mS_sD15, md_R16 H, md_K16 H, md_L16 H, mI_sD16, mS_sD16, md_R17 H, md_K17 H, md_L17 H, mI_sD17, mS_sD17, md_R18 H, md_K18 H, md_L18 H, mI_sD18, mS_sD18, md_R19 H, md_K19 H, md_L19 H, mI_sD19, mS_sD19, md_R20 H, md_K20 H, md_L20 H, mI_sD20, mS_sD20, md_R21 H, md_K21 H, md_L21 H, mI_sD21, mS_sD21, md_R22 H, md_K22 H, md_L22 H, mI_sD22, mS_sD22, md_R23 H, md_K23 H, md_L23 H, mI_sD23, mS_sD23, md_R24 H, md_K24 H, md_L24 H, mI_sD24, mS_sD24, md_R25 H, md_K25 H, md_L25 H, mI_sD25, mS_sD25, mI_sDs1640, mS_sDs1640, mI_sDs1641, mS_sDs1641, mI_sDs1642, mS_sDs1642, mI_sDs1666, mS_sDs1666, mI_sDs1667, mS_sDs1667, vi440, cl440, vi441, cl441, vi442, cl442, vi443, cl443, vi444, cl444, vi445, cl445, vi446, cl446, vi447, cl447, vi448, cl448, vi449, cl449, vi450, cl450, forall_eq, Option.some.injEq, exists_eq_left', true_and, m30, m11, m6, m4, nI_add, p1, p2, p3, p4, p5, p6, p7, p8, p9, p10, p11, p440, vin, cl, nle, nlt, neq, nI_i1, dU_ne, oI]
        refine EX.mono (c_Md_fit H eI hn hr hi) fun w N hv => ?_
        obtain ⟨rfl, rfl⟩ := hv
        simp (disch := omega) only [mKd_sD, mLn_sD, mR_sD, md_K H, md_R1 H, md_K1 H, md_L1 H, mI_sD1, mS_sD1, md_R2 H, md_K2 H, md_L2 H, mI_sD2, mS_sD2, md_R3 H, md_K3 H, md_L3 H, mI_sD3, mS_sD3, md_R4 H, md_K4 H, md_L4 H, mI_sD4, mS_sD4, md_R5 H, md_K5 H, md_L5 H, mI_sD5, mS_sD5, md_R6 H, md_K6 H, md_L6 H, mI_sD6, mS_sD6, md_R7 H, md_K7 H, md_L7 H, mI_sD7, mS_sD7, md_R8 H, md_K8 H, md_L8 H, mI_sD8, mS_sD8, md_R9 H, md_K9 H, md_L9 H, mI_sD9, mS_sD9, md_R10 H, md_K10 H, md_L10 H, mI_sD10, mS_sD10, md_R11 H, md_K11 H, md_L11 H, mI_sD11, mS_sD11, md_R12 H, md_K12 H, md_L12 H, mI_sD12, mS_sD12, md_R13 H, md_K13 H, md_L13 H, mI_sD13, mS_sD13, md_R14 H, md_K14 H, md_L14 H, mI_sD14, mS_sD14, md_R15 H, md_K15 H, md_L15 H, mI_sD15, mS_sD15, md_R16 H, md_K16 H, md_L16 H, mI_sD16, mS_sD16, md_R17 H, md_K17 H, md_L17 H, mI_sD17, mS_sD17, md_R18 H, md_K18 H, md_L18 H, mI_sD18, mS_sD18, md_R19 H, md_K19 H, md_L19 H, mI_sD19, mS_sD19, md_R20 H, md_K20 H, md_L20 H, mI_sD20, mS_sD20, md_R21 H, md_K21 H, md_L21 H, mI_sD21, mS_sD21, md_R22 H, md_K22 H, md_L22 H, mI_sD22, mS_sD22, md_R23 H, md_K23 H, md_L23 H, mI_sD23, mS_sD23, md_R24 H, md_K24 H, md_L24 H, mI_sD24, mS_sD24, md_R25 H, md_K25 H, md_L25 H, mI_sD25, mS_sD25, mI_sDs1640, mS_sDs1640, mI_sDs1641, mS_sDs1641, mI_sDs1642, mS_sDs1642, mI_sDs1666, mS_sDs1666, mI_sDs1667, mS_sDs1667, vi440, cl440, vi441, cl441, vi442, cl442, vi443, cl443, vi444, cl444, vi445, cl445, vi446, cl446, vi447, cl447, vi448, cl448, vi449, cl449, vi450, cl450, forall_eq, Option.some.injEq, exists_eq_left', true_and, m30, m11, m6, m4, nI_add, p1, p2, p3, p4, p5, p6, p7, p8, p9, p10, p11, p440, vin, cl, nle, nlt, neq, nI_i1, dU_ne, g_fit_ne]
        refine EX.mono (c_Md_start H (by omega)) fun w N hv => ?_
        obtain ⟨rfl, rfl⟩ := hv
        simp (disch := omega) only [mKd_sD, mLn_sD, mR_sD, md_K H, md_R1 H, md_K1 H, md_L1 H, mI_sD1, mS_sD1, md_R2 H, md_K2 H, md_L2 H, mI_sD2, mS_sD2, md_R3 H, md_K3 H, md_L3 H, mI_sD3, mS_sD3, md_R4 H, md_K4 H, md_L4 H, mI_sD4, mS_sD4, md_R5 H, md_K5 H, md_L5 H, mI_sD5, mS_sD5, md_R6 H, md_K6 H, md_L6 H, mI_sD6, mS_sD6, md_R7 H, md_K7 H, md_L7 H, mI_sD7, mS_sD7, md_R8 H, md_K8 H, md_L8 H, mI_sD8, mS_sD8, md_R9 H, md_K9 H, md_L9 H, mI_sD9, mS_sD9, md_R10 H, md_K10 H, md_L10 H, mI_sD10, mS_sD10, md_R11 H, md_K11 H, md_L11 H, mI_sD11, mS_sD11, md_R12 H, md_K12 H, md_L12 H, mI_sD12, mS_sD12, md_R13 H, md_K13 H, md_L13 H, mI_sD13, mS_sD13, md_R14 H, md_K14 H, md_L14 H, mI_sD14, mS_sD14, md_R15 H, md_K15 H, md_L15 H, mI_sD15, mS_sD15, md_R16 H, md_K16 H, md_L16 H, mI_sD16, mS_sD16, md_R17 H, md_K17 H, md_L17 H, mI_sD17, mS_sD17, md_R18 H, md_K18 H, md_L18 H, mI_sD18, mS_sD18, md_R19 H, md_K19 H, md_L19 H, mI_sD19, mS_sD19, md_R20 H, md_K20 H, md_L20 H, mI_sD20, mS_sD20, md_R21 H, md_K21 H, md_L21 H, mI_sD21, mS_sD21, md_R22 H, md_K22 H, md_L22 H, mI_sD22, mS_sD22, md_R23 H, md_K23 H, md_L23 H, mI_sD23, mS_sD23, md_R24 H, md_K24 H, md_L24 H, mI_sD24, mS_sD24, md_R25 H, md_K25 H, md_L25 H, mI_sD25, mS_sD25, mI_sDs1640, mS_sDs1640, mI_sDs1641, mS_sDs1641, mI_sDs1642, mS_sDs1642, mI_sDs1666, mS_sDs1666, mI_sDs1667, mS_sDs1667, vi440, cl440, vi441, cl441, vi442, cl442, vi443, cl443, vi444, cl444, vi445, cl445, vi446, cl446, vi447, cl447, vi448, cl448, vi449, cl449, vi450, cl450, forall_eq, Option.some.injEq, exists_eq_left', true_and, m30, m11, m6, m4, nI_add, p1, p2, p3, p4, p5, p6, p7, p8, p9, p10, p11, p440, vin, cl, nle, nlt, neq, nI_i1, dU_ne, g_fit_ne, g_start_bl]
        refine EX.mono (c_Md_sendAll H (n := n) (by simp (disch := omega) only [dU_ne, g_start_ne, g_fit_ne]; exact eN) hn (eU.to (by simp (disch := omega) only [dU_ne, g_start_ne, g_fit_ne])) hr hi) fun w N hv => ?_
        obtain ⟨rfl, rfl⟩ := hv
        exact ⟨rfl, by rw [← hR, g_best, hacc]; simp only [hcom, hpre]; rfl⟩
theorem t189 {v1 v2 v4 v5 : Int32} {N : me_M} {Q : Option me_V → me_M → Prop} (h6 : ¬ v1 = 6) (hq : Q none N) : EX eL X_Md_receive 189 [some (.inr (some m)), some (.inl v1), some (.inl v2), none, some (.inl v4), some (.inl v5), none] [] N Q := sg_Md_receive_189 ⟨fun _ => hq, fun z => absurd z h6⟩
theorem t139 {v1 v2 v4 v5 : Int32} {N : me_M} {Q : Option me_V → me_M → Prop} (h3 : ¬ v1 = 3) (h6 : ¬ v1 = 6) (hq : Q none N) : EX eL X_Md_receive 139 [some (.inr (some m)), some (.inl v1), some (.inl v2), none, some (.inl v4), some (.inl v5), none] [] N Q := sg_Md_receive_139 ⟨fun _ => t189 h6 hq, fun z => absurd z h3⟩
theorem t117 {v1 v2 v4 v5 : Int32} {N : me_M} {Q : Option me_V → me_M → Prop} (h1 : ¬ v1 = 1) (h3 : ¬ v1 = 3) (h6 : ¬ v1 = 6) (hq : Q none N) : EX eL X_Md_receive 117 [some (.inr (some m)), some (.inl v1), some (.inl v2), none, some (.inl v4), some (.inl v5), none] [] N Q := sg_Md_receive_117 ⟨fun _ => t139 h3 h6 hq, fun z => absurd z h1⟩
theorem t95 {v1 v2 v4 v5 : Int32} {N : me_M} {Q : Option me_V → me_M → Prop} (h4 : ¬ v1 = 4) (h1 : ¬ v1 = 1) (h3 : ¬ v1 = 3) (h6 : ¬ v1 = 6) (hq : Q none N) : EX eL X_Md_receive 95 [some (.inr (some m)), some (.inl v1), some (.inl v2), none, some (.inl v4), some (.inl v5), none] [] N Q := sg_Md_receive_95 ⟨fun _ => t117 h1 h3 h6 hq, fun z => absurd z h4⟩
theorem t82 {v1 v2 v3 v4 v5 : Int32} {N : me_M} {Q : Option me_V → me_M → Prop} (h5 : ¬ v1 = 5) (h4 : ¬ v1 = 4) (h1 : ¬ v1 = 1) (h3 : ¬ v1 = 3) (h6 : ¬ v1 = 6) (hq : Q none N) : EX eL X_Md_receive 82 [some (.inr (some m)), some (.inl v1), some (.inl v2), some (.inl v3), some (.inl v4), some (.inl v5), none] [] N Q := sg_Md_receive_82 ⟨fun _ => t95 h4 h1 h3 h6 hq, fun z => absurd z h5⟩
theorem t69 {v1 v2 v3 v4 v5 : Int32} {N : me_M} {Q : Option me_V → me_M → Prop} (h2 : ¬ v1 = 2) (h5 : ¬ v1 = 5) (h4 : ¬ v1 = 4) (h1 : ¬ v1 = 1) (h3 : ¬ v1 = 3) (h6 : ¬ v1 = 6) (hq : Q none N) : EX eL X_Md_receive 69 [some (.inr (some m)), some (.inl v1), some (.inl v2), some (.inl v3), some (.inl v4), some (.inl v5), none] [] N Q := sg_Md_receive_69 ⟨fun _ => t82 h5 h4 h1 h3 h6 hq, fun z => absurd z h2⟩
theorem g_log_ne {a j x : Nat} (h : j < 16 ∨ 23 < j) : g_log D a j x = D j x := by
  unfold g_log
  simp (disch := omega) only [dU_ne]
theorem g_log_ct {a : Nat} : g_log D a 16 a = D 16 a + 1 := by
  unfold g_log
  rw [dU_eq]
set_option maxHeartbeats 4000000 in
theorem c_Md_receive (H : mdl M m) (hN : D 1640 0 = nI n) (hF : D 1641 0 = nI (n / 2)) (hI : D 1642 0 = nI (6 * n)) (hn : n ≤ 5) (hu : uOK D) (hr : r < 5) (hi : i < 30) {c fr : Nat} (hc : D 16 (30 * r + i) = nI c) (hc3 : c ≤ 3) (hc2 : D 14 (30 * r + i) = 3 → c ≤ 2) {kind : Int32} : EX eL X_Md_receive 0 [some (.inr (some m)), some (.inl kind), some (.inl (nI r)), some (.inl (nI fr)), some (.inl (nI i)), none, none] [] (sD M m D) (fun w N => w = none ∧ N = sD M m (g_receive D n kind r fr i)) := by
  refine sg_Md_receive_0 ?_
  have eN : ∀ a, g_log D a 1640 0 = nI n := fun a => by rw [g_log_ne (by omega)]; exact hN
  have eF : ∀ a, g_log D a 1641 0 = nI (n / 2) := fun a => by rw [g_log_ne (by omega)]; exact hF
  have eI : ∀ a, g_log D a 1642 0 = nI (6 * n) := fun a => by rw [g_log_ne (by omega)]; exact hI
  have eU : ∀ a, uOK (g_log D a) := fun a => hu.to (g_log_ne (by omega))
  have eC : g_log D (30 * r + i) 16 (30 * r + i) = nI (c + 1) := by rw [g_log_ct, hc, p1]
  have snd4 : (kind = 0 ∨ kind = 2 ∨ kind = 5) → ¬ D 4 (30 * r + i) < 3 → EX eL X_Md_send 0 [some (.inr (some m)), some (.inl 4), some (.inl (nI r)), some (.inl (nI fr)), some (.inl (nI i)), some (.inl 0), none, none] [] (sD M m D) (fun w N => w = none ∧ N = sD M m (g_receive D n kind r fr i)) := by
    intro h1 h2
    refine EX.mono (c_Md_send' H hu hr hi) fun w N hv => ?_
    obtain ⟨rfl, rfl⟩ := hv
    exact ⟨rfl, by rw [g_receive, if_pos ⟨h1, Int32.not_lt.mp h2⟩]⟩
  have main : ¬ ((kind = 0 ∨ kind = 2 ∨ kind = 5) ∧ 3 ≤ D 4 (30 * r + i)) → EX eL X_Md_receive 57 [some (.inr (some m)), some (.inl kind), some (.inl (nI r)), some (.inl (nI fr)), some (.inl (nI i)), some (.inl (nI (30 * r + i))), none] [] (sD M m D) (fun w N => w = none ∧ N = sD M m (g_receive D n kind r fr i)) := by
    intro h0
    generalize hR : g_receive D n kind r fr i = RES
    rw [g_receive, if_neg h0] at hR
    refine sg_Md_receive_57 ⟨fun k0 => ?_, fun k0 => ?_⟩
    · rw [if_neg k0] at hR
      refine sg_Md_receive_69 ⟨fun k2 => ?_, fun k2 => ?_⟩
      · rw [if_neg k2] at hR
        refine sg_Md_receive_82 ⟨fun k5 => ?_, fun k5 => ?_⟩
        · rw [if_neg k5] at hR
          refine sg_Md_receive_95 ⟨fun k4 => ?_, fun k4 => ?_⟩
          · rw [if_neg k4] at hR
            refine sg_Md_receive_117 ⟨fun k1 => ?_, fun k1 => ?_⟩
            · rw [if_neg k1] at hR
              refine sg_Md_receive_139 ⟨fun k3 => ?_, fun k3 => ?_⟩
              · rw [if_neg k3] at hR
                refine sg_Md_receive_189 ⟨fun k6 => ?_, fun k6 => ?_⟩
                · rw [if_neg k6] at hR
                  exact ⟨rfl, by rw [hR]⟩
                · rw [if_pos k6] at hR
                  refine ⟨md_K H, EX.mono (c_Md_counts H (by omega) hc (by omega)) fun w N hv => ?_⟩
                  obtain ⟨rfl, rfl⟩ := hv
                  refine ⟨_, rfl, fun z => ?_, fun z => ?_⟩
                  · rw [b01_0 z, if_neg (by decide)] at hR
                    rw [b01_0 z, if_neg (by decide)]
                    exact ⟨rfl, by rw [hR]⟩
                  · have hcnt := b01_1 z
                    rw [hcnt, if_pos rfl] at hR
                    rw [if_pos hcnt]
                    simp (disch := omega) only [mKd_sD, mLn_sD, mR_sD, md_K H, md_R1 H, md_K1 H, md_L1 H, mI_sD1, mS_sD1, md_R2 H, md_K2 H, md_L2 H, mI_sD2, mS_sD2, md_R3 H, md_K3 H, md_L3 H, mI_sD3, mS_sD3, md_R4 H, md_K4 H, md_L4 H, mI_sD4, mS_sD4, md_R5 H, md_K5 H, md_L5 H, mI_sD5, mS_sD5, md_R6 H, md_K6 H, md_L6 H, mI_sD6, mS_sD6, md_R7 H, md_K7 H, md_L7 H, mI_sD7, mS_sD7, md_R8 H, md_K8 H, md_L8 H, mI_sD8, mS_sD8, md_R9 H, md_K9 H, md_L9 H, mI_sD9, mS_sD9, md_R10 H, md_K10 H, md_L10 H, mI_sD10, mS_sD10, md_R11 H, md_K11 H, md_L11 H, mI_sD11, mS_sD11, md_R12 H, md_K12 H, md_L12 H, mI_sD12, mS_sD12, md_R13 H, md_K13 H, md_L13 H, mI_sD13, mS_sD13, md_R14 H, md_K14 H, md_L14 H, mI_sD14, mS_sD14, md_R15 H, md_K15 H, md_L15 H, mI_sD15, mS_sD15, md_R16 H, md_K16 H, md_L16 H, mI_sD16, mS_sD16, md_R17 H, md_K17 H, md_L17 H, mI_sD17, mS_sD17, md_R18 H, md_K18 H, md_L18 H, mI_sD18, mS_sD18, md_R19 H, md_K19 H, md_L19 H, mI_sD19, mS_sD19, md_R20 H, md_K20 H, md_L20 H, mI_sD20, mS_sD20, md_R21 H, md_K21 H, md_L21 H, mI_sD21, mS_sD21, md_R22 H, md_K22 H, md_L22 H, mI_sD22, mS_sD22, md_R23 H, md_K23 H, md_L23 H, mI_sD23, mS_sD23, md_R24 H, md_K24 H, md_L24 H, mI_sD24, mS_sD24, md_R25 H, md_K25 H, md_L25 H, mI_sD25, mS_sD25, mI_sDs1640, mS_sDs1640, mI_sDs1641, mS_sDs1641, mI_sDs1642, mS_sDs1642, mI_sDs1666, mS_sDs1666, mI_sDs1667, mS_sDs1667, vi440, cl440, vi441, cl441, vi442, cl442, vi443, cl443, vi444, cl444, vi445, cl445, vi446, cl446, vi447, cl447, vi448, cl448, vi449, cl449, vi450, cl450, forall_eq, Option.some.injEq, exists_eq_left', true_and, m30, m11, m6, m4, nI_add, p1, p2, p3, p4, p5, p6, p7, p8, p9, p10, p11, p440, vin, cl, nle, nlt, neq, nI_i1, dU_ne, eF, eC]
                    rw [hc, p1, hF] at hR
                    have hph : c ≤ 2 := hc2 (by
                      simp only [g_cnt?, Bool.and_eq_true, Bool.or_eq_true, decide_eq_true_eq] at hcnt
                      rcases hcnt.1.1.2 with h | h
                      · exact h
                      · exact absurd h.1 (by decide))
                    refine ⟨fun h => ?_, fun h => ?_⟩
                    · rw [if_neg (fun z => h ((neq (by omega) (by omega)).mp z))] at hR
                      rw [hR]
                    · rw [if_pos ((neq (by omega) (by omega)).mpr h)] at hR
                      refine EX.mono (c_Md_afterPromise H (eN _) (eF _) (eI _) hn (eU _) hr hi eC (by omega)) fun w N hv => ?_
                      obtain ⟨rfl, rfl⟩ := hv
                      exact ⟨rfl, by rw [hR]⟩
              · rw [if_pos k3] at hR
                have k6 : ¬ kind = 6 := by rw [k3]; decide
                refine ⟨md_K H, EX.mono (c_Md_counts H (by omega) hc (by omega)) fun w N hv => ?_⟩
                obtain ⟨rfl, rfl⟩ := hv
                refine ⟨_, rfl, fun z => ?_, fun z => ?_⟩
                · rw [b01_0 z, if_neg (by decide)] at hR
                  rw [b01_0 z, if_neg (by decide)]
                  exact t189 k6 ⟨rfl, by rw [hR]⟩
                · have hcnt := b01_1 z
                  rw [hcnt, if_pos rfl] at hR
                  rw [if_pos hcnt]
                  simp (disch := omega) only [mKd_sD, mLn_sD, mR_sD, md_K H, md_R1 H, md_K1 H, md_L1 H, mI_sD1, mS_sD1, md_R2 H, md_K2 H, md_L2 H, mI_sD2, mS_sD2, md_R3 H, md_K3 H, md_L3 H, mI_sD3, mS_sD3, md_R4 H, md_K4 H, md_L4 H, mI_sD4, mS_sD4, md_R5 H, md_K5 H, md_L5 H, mI_sD5, mS_sD5, md_R6 H, md_K6 H, md_L6 H, mI_sD6, mS_sD6, md_R7 H, md_K7 H, md_L7 H, mI_sD7, mS_sD7, md_R8 H, md_K8 H, md_L8 H, mI_sD8, mS_sD8, md_R9 H, md_K9 H, md_L9 H, mI_sD9, mS_sD9, md_R10 H, md_K10 H, md_L10 H, mI_sD10, mS_sD10, md_R11 H, md_K11 H, md_L11 H, mI_sD11, mS_sD11, md_R12 H, md_K12 H, md_L12 H, mI_sD12, mS_sD12, md_R13 H, md_K13 H, md_L13 H, mI_sD13, mS_sD13, md_R14 H, md_K14 H, md_L14 H, mI_sD14, mS_sD14, md_R15 H, md_K15 H, md_L15 H, mI_sD15, mS_sD15, md_R16 H, md_K16 H, md_L16 H, mI_sD16, mS_sD16, md_R17 H, md_K17 H, md_L17 H, mI_sD17, mS_sD17, md_R18 H, md_K18 H, md_L18 H, mI_sD18, mS_sD18, md_R19 H, md_K19 H, md_L19 H, mI_sD19, mS_sD19, md_R20 H, md_K20 H, md_L20 H, mI_sD20, mS_sD20, md_R21 H, md_K21 H, md_L21 H, mI_sD21, mS_sD21, md_R22 H, md_K22 H, md_L22 H, mI_sD22, mS_sD22, md_R23 H, md_K23 H, md_L23 H, mI_sD23, mS_sD23, md_R24 H, md_K24 H, md_L24 H, mI_sD24, mS_sD24, md_R25 H, md_K25 H, md_L25 H, mI_sD25, mS_sD25, mI_sDs1640, mS_sDs1640, mI_sDs1641, mS_sDs1641, mI_sDs1642, mS_sDs1642, mI_sDs1666, mS_sDs1666, mI_sDs1667, mS_sDs1667, vi440, cl440, vi441, cl441, vi442, cl442, vi443, cl443, vi444, cl444, vi445, cl445, vi446, cl446, vi447, cl447, vi448, cl448, vi449, cl449, vi450, cl450, forall_eq, Option.some.injEq, exists_eq_left', true_and, m30, m11, m6, m4, nI_add, p1, p2, p3, p4, p5, p6, p7, p8, p9, p10, p11, p440, vin, cl, nle, nlt, neq, nI_i1, dU_ne, eF, eC, g_log_ne]
                  rw [hc, p1, hF] at hR
                  refine ⟨fun h => ?_, fun h => ?_⟩
                  · rw [if_neg (fun z => h ((neq (by omega) (by omega)).mp z))] at hR
                    exact t189 k6 ⟨rfl, by rw [hR]⟩
                  · rw [if_pos ((neq (by omega) (by omega)).mpr h)] at hR
                    refine EX.mono (c_Md_finish H (eN _) hn (eU _) hr hi) fun w N hv => ?_
                    obtain ⟨rfl, rfl⟩ := hv
                    exact ⟨rfl, t189 k6 ⟨rfl, by rw [hR]⟩⟩
            · rw [if_pos k1] at hR
              have k6 : ¬ kind = 6 := by rw [k1]; decide
              have k3 : ¬ kind = 3 := by rw [k1]; decide
              refine ⟨md_K H, EX.mono (c_Md_counts H (by omega) hc (by omega)) fun w N hv => ?_⟩
              obtain ⟨rfl, rfl⟩ := hv
              refine ⟨_, rfl, fun z => ?_, fun z => ?_⟩
              · rw [b01_0 z, if_neg (by decide)] at hR
                rw [b01_0 z, if_neg (by decide)]
                exact t139 k3 k6 ⟨rfl, by rw [hR]⟩
              · have hcnt := b01_1 z
                rw [hcnt, if_pos rfl] at hR
                rw [if_pos hcnt]
                refine ⟨md_K H, EX.mono (c_Md_afterPre H (eN _) hn (eU _) hr hi eC (by omega)) fun w N hv => ?_⟩
                obtain ⟨rfl, rfl⟩ := hv
                exact ⟨rfl, t139 k3 k6 ⟨rfl, by rw [hR]⟩⟩
          · rw [if_pos k4] at hR
            have k6 : ¬ kind = 6 := by rw [k4]; decide
            have k3 : ¬ kind = 3 := by rw [k4]; decide
            have k1 : ¬ kind = 1 := by rw [k4]; decide
            simp (disch := omega) only [mKd_sD, mLn_sD, mR_sD, md_K H, md_R1 H, md_K1 H, md_L1 H, mI_sD1, mS_sD1, md_R2 H, md_K2 H, md_L2 H, mI_sD2, mS_sD2, md_R3 H, md_K3 H, md_L3 H, mI_sD3, mS_sD3, md_R4 H, md_K4 H, md_L4 H, mI_sD4, mS_sD4, md_R5 H, md_K5 H, md_L5 H, mI_sD5, mS_sD5, md_R6 H, md_K6 H, md_L6 H, mI_sD6, mS_sD6, md_R7 H, md_K7 H, md_L7 H, mI_sD7, mS_sD7, md_R8 H, md_K8 H, md_L8 H, mI_sD8, mS_sD8, md_R9 H, md_K9 H, md_L9 H, mI_sD9, mS_sD9, md_R10 H, md_K10 H, md_L10 H, mI_sD10, mS_sD10, md_R11 H, md_K11 H, md_L11 H, mI_sD11, mS_sD11, md_R12 H, md_K12 H, md_L12 H, mI_sD12, mS_sD12, md_R13 H, md_K13 H, md_L13 H, mI_sD13, mS_sD13, md_R14 H, md_K14 H, md_L14 H, mI_sD14, mS_sD14, md_R15 H, md_K15 H, md_L15 H, mI_sD15, mS_sD15, md_R16 H, md_K16 H, md_L16 H, mI_sD16, mS_sD16, md_R17 H, md_K17 H, md_L17 H, mI_sD17, mS_sD17, md_R18 H, md_K18 H, md_L18 H, mI_sD18, mS_sD18, md_R19 H, md_K19 H, md_L19 H, mI_sD19, mS_sD19, md_R20 H, md_K20 H, md_L20 H, mI_sD20, mS_sD20, md_R21 H, md_K21 H, md_L21 H, mI_sD21, mS_sD21, md_R22 H, md_K22 H, md_L22 H, mI_sD22, mS_sD22, md_R23 H, md_K23 H, md_L23 H, mI_sD23, mS_sD23, md_R24 H, md_K24 H, md_L24 H, mI_sD24, mS_sD24, md_R25 H, md_K25 H, md_L25 H, mI_sD25, mS_sD25, mI_sDs1640, mS_sDs1640, mI_sDs1641, mS_sDs1641, mI_sDs1642, mS_sDs1642, mI_sDs1666, mS_sDs1666, mI_sDs1667, mS_sDs1667, vi440, cl440, vi441, cl441, vi442, cl442, vi443, cl443, vi444, cl444, vi445, cl445, vi446, cl446, vi447, cl447, vi448, cl448, vi449, cl449, vi450, cl450, forall_eq, Option.some.injEq, exists_eq_left', true_and, m30, m11, m6, m4, nI_add, p1, p2, p3, p4, p5, p6, p7, p8, p9, p10, p11, p440, vin, cl, nle, nlt, neq, nI_i1, dU_ne]
            refine ⟨fun h => ?_, fun h => ?_⟩
            · rw [if_neg (Int32.not_lt.mpr h)] at hR
              exact t117 k1 k3 k6 ⟨rfl, by rw [hR]⟩
            · rw [if_pos (Int32.not_le.mp h)] at hR
              refine EX.mono (c_Md_settle H (by omega)) fun w N hv => ?_
              obtain ⟨rfl, rfl⟩ := hv
              exact ⟨rfl, t117 k1 k3 k6 ⟨rfl, by rw [hR]⟩⟩
        · rw [if_pos k5] at hR
          refine ⟨md_K H, EX.mono (c_Md_asked H hu hr hi) fun w N hv => ?_⟩
          obtain ⟨rfl, rfl⟩ := hv
          exact ⟨rfl, t95 (by rw [k5]; decide) (by rw [k5]; decide) (by rw [k5]; decide) (by rw [k5]; decide) ⟨rfl, by rw [hR]⟩⟩
      · rw [if_pos k2] at hR
        refine ⟨md_K H, EX.mono (c_Md_accept H hu hr hi) fun w N hv => ?_⟩
        obtain ⟨rfl, rfl⟩ := hv
        exact ⟨rfl, t82 (by rw [k2]; decide) (by rw [k2]; decide) (by rw [k2]; decide) (by rw [k2]; decide) (by rw [k2]; decide) ⟨rfl, by rw [hR]⟩⟩
    · rw [if_pos k0] at hR
      refine ⟨md_K H, EX.mono (c_Md_preaccept H hI hn hu hr hi) fun w N hv => ?_⟩
      obtain ⟨rfl, rfl⟩ := hv
      exact ⟨rfl, t69 (by rw [k0]; decide) (by rw [k0]; decide) (by rw [k0]; decide) (by rw [k0]; decide) (by rw [k0]; decide) (by rw [k0]; decide) ⟨rfl, by rw [hR]⟩⟩
  simp (disch := omega) only [mKd_sD, mLn_sD, mR_sD, md_K H, md_R1 H, md_K1 H, md_L1 H, mI_sD1, mS_sD1, md_R2 H, md_K2 H, md_L2 H, mI_sD2, mS_sD2, md_R3 H, md_K3 H, md_L3 H, mI_sD3, mS_sD3, md_R4 H, md_K4 H, md_L4 H, mI_sD4, mS_sD4, md_R5 H, md_K5 H, md_L5 H, mI_sD5, mS_sD5, md_R6 H, md_K6 H, md_L6 H, mI_sD6, mS_sD6, md_R7 H, md_K7 H, md_L7 H, mI_sD7, mS_sD7, md_R8 H, md_K8 H, md_L8 H, mI_sD8, mS_sD8, md_R9 H, md_K9 H, md_L9 H, mI_sD9, mS_sD9, md_R10 H, md_K10 H, md_L10 H, mI_sD10, mS_sD10, md_R11 H, md_K11 H, md_L11 H, mI_sD11, mS_sD11, md_R12 H, md_K12 H, md_L12 H, mI_sD12, mS_sD12, md_R13 H, md_K13 H, md_L13 H, mI_sD13, mS_sD13, md_R14 H, md_K14 H, md_L14 H, mI_sD14, mS_sD14, md_R15 H, md_K15 H, md_L15 H, mI_sD15, mS_sD15, md_R16 H, md_K16 H, md_L16 H, mI_sD16, mS_sD16, md_R17 H, md_K17 H, md_L17 H, mI_sD17, mS_sD17, md_R18 H, md_K18 H, md_L18 H, mI_sD18, mS_sD18, md_R19 H, md_K19 H, md_L19 H, mI_sD19, mS_sD19, md_R20 H, md_K20 H, md_L20 H, mI_sD20, mS_sD20, md_R21 H, md_K21 H, md_L21 H, mI_sD21, mS_sD21, md_R22 H, md_K22 H, md_L22 H, mI_sD22, mS_sD22, md_R23 H, md_K23 H, md_L23 H, mI_sD23, mS_sD23, md_R24 H, md_K24 H, md_L24 H, mI_sD24, mS_sD24, md_R25 H, md_K25 H, md_L25 H, mI_sD25, mS_sD25, mI_sDs1640, mS_sDs1640, mI_sDs1641, mS_sDs1641, mI_sDs1642, mS_sDs1642, mI_sDs1666, mS_sDs1666, mI_sDs1667, mS_sDs1667, vi440, cl440, vi441, cl441, vi442, cl442, vi443, cl443, vi444, cl444, vi445, cl445, vi446, cl446, vi447, cl447, vi448, cl448, vi449, cl449, vi450, cl450, forall_eq, Option.some.injEq, exists_eq_left', true_and, m30, m11, m6, m4, nI_add, p1, p2, p3, p4, p5, p6, p7, p8, p9, p10, p11, p440, vin, cl, nle, nlt, neq, nI_i1, dU_ne]
  refine ⟨fun k => ⟨fun h => main (fun z => Int32.not_le.mpr h z.2), fun h => snd4 (Or.inl k) h⟩, fun k => ⟨fun k2 => ⟨fun h => main (fun z => Int32.not_le.mpr h z.2), fun h => snd4 (Or.inr (Or.inl k2)) h⟩, fun k2 => ⟨fun k5 => main (fun z => by rcases z.1 with z | z | z; exact k z; exact k2 z; exact k5 z), fun k5 => ⟨fun h => main (fun z => Int32.not_le.mpr h z.2), fun h => snd4 (Or.inr (Or.inr k5)) h⟩⟩⟩⟩
end MC8
