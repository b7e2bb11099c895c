theorem vi440 : vp_in 440 451 := vp_in_nI (n := 440) (by decide) (by decide)
theorem vi441 : vp_in 441 451 := vp_in_nI (n := 441) (by decide) (by decide)
theorem vi442 : vp_in 442 451 := vp_in_nI (n := 442) (by decide) (by decide)
theorem vi443 : vp_in 443 451 := vp_in_nI (n := 443) (by decide) (by decide)
theorem vi444 : vp_in 444 451 := vp_in_nI (n := 444) (by decide) (by decide)
theorem vi445 : vp_in 445 451 := vp_in_nI (n := 445) (by decide) (by decide)
theorem vi446 : vp_in 446 451 := vp_in_nI (n := 446) (by decide) (by decide)
theorem vi447 : vp_in 447 451 := vp_in_nI (n := 447) (by decide) (by decide)
theorem vi448 : vp_in 448 451 := vp_in_nI (n := 448) (by decide) (by decide)
theorem vi449 : vp_in 449 451 := vp_in_nI (n := 449) (by decide) (by decide)
theorem vi450 : vp_in 450 451 := vp_in_nI (n := 450) (by decide) (by decide)
theorem cl440 : (440 : Int32).toNatClampNeg = 440 := by decide
theorem cl441 : (441 : Int32).toNatClampNeg = 441 := by decide
theorem cl442 : (442 : Int32).toNatClampNeg = 442 := by decide
theorem cl443 : (443 : Int32).toNatClampNeg = 443 := by decide
theorem cl444 : (444 : Int32).toNatClampNeg = 444 := by decide
theorem cl445 : (445 : Int32).toNatClampNeg = 445 := by decide
theorem cl446 : (446 : Int32).toNatClampNeg = 446 := by decide
theorem cl447 : (447 : Int32).toNatClampNeg = 447 := by decide
theorem cl448 : (448 : Int32).toNatClampNeg = 448 := by decide
theorem cl449 : (449 : Int32).toNatClampNeg = 449 := by decide
theorem cl450 : (450 : Int32).toNatClampNeg = 450 := by decide
theorem l11 : (11 : Int32) = nI 11 := rfl
section MC4
variable {M : me_M} {m : Nat} {D : me_D} {n r i : Nat}
theorem uOK.to {E : me_D} (h : uOK D) (he : E 1666 0 = D 1666 0) : uOK E := by
  obtain ⟨u, h1, h2⟩ := h
  exact ⟨u, by rw [he, h1], h2⟩
theorem g_put_ne {a j x : Nat} {w c v : Int32} (h1 : ¬ j = 4) (h2 : ¬ j = 5) (h3 : ¬ j = 6) : g_put D a w c v j x = D j x := by
  unfold g_put
  rw [dU_ne _ h3, dU_ne _ h2, dU_ne _ h1]
theorem g_fit_ne {j x : Nat} {c v s d : Int32} (h1 : ¬ j = 4) (h2 : ¬ j = 5) (h3 : ¬ j = 6) (h4 : ¬ j = 7) (h5 : ¬ j = 8) : g_fit D n r i c v s d j x = D j x := by
  unfold g_fit
  rw [dU_ne _ h5, dU_ne _ h4, g_put_ne h1 h2 h3]
theorem g_settle_ne {a j x : Nat} {w : Int32} (h1 : ¬ j = 4) (h2 : ¬ j = 5) (h3 : ¬ j = 6) (h4 : ¬ j = 7) (h5 : ¬ j = 8) : g_settle D a w j x = D j x := by
  unfold g_settle
  rw [dU_ne _ h5, dU_ne _ h4, g_put_ne h1 h2 h3]
theorem g_cpU_ne {k j x : Nat} (h : ¬ j = 24) (c : Nat) : g_cpU D k c j x = D j x := by
  induction c with
  | zero => rfl
  | succ c ih => rw [g_cpU, dU_ne _ h, ih]
theorem g_shU_ne {k j x : Nat} (h : ¬ j = 24) (c : Nat) : g_shU D k c j x = D j x := by
  induction c with
  | zero => rfl
  | succ c ih => rw [g_shU, dU_ne _ h, ih]
theorem c_Md_take (H : mdl M m) {u k : Nat} (hu : D 1666 0 = nI u) (h40 : u ≤ 40) (hk : k < u) : EX eL X_Md_take 0 [some (.inr (some m)), some (.inl (nI k)), none] [] (sD M m D) (fun w N => w = none ∧ N = sD M m (g_take D k)) := by
  have hg : g_un D = u := by unfold g_un; rw [hu]; exact cl (by omega)
  refine sg_Md_take_0 ?_
  have loop2 : ∀ t c, t + c = 11 * (u - 1 - k) → EX eL X_Md_take 40 [some (.inr (some m)), none, some (.inl (nI (11 * k + c)))] [] (sD M m (g_shU (g_cpU D k 11) k c)) (fun w N => w = none ∧ N = sD M m (g_take D k)) := by
    intro t
    induction t with
    | zero =>
      intro c hc
      have hc : c = 11 * (u - 1 - k) := by omega
      refine sg_Md_take_40 ?_
      simp (disch := omega) only [mKd_sD, mLn_sD, mR_sD, md_K H, md_R1 H, md_K1 H, md_L1 H, mI_sD1, mS_sD1, md_R2 H, md_K2 H, md_L2 H, mI_sD2, mS_sD2, md_R3 H, md_K3 H, md_L3 H, mI_sD3, mS_sD3, md_R4 H, md_K4 H, md_L4 H, mI_sD4, mS_sD4, md_R5 H, md_K5 H, md_L5 H, mI_sD5, mS_sD5, md_R6 H, md_K6 H, md_L6 H, mI_sD6, mS_sD6, md_R7 H, md_K7 H, md_L7 H, mI_sD7, mS_sD7, md_R8 H, md_K8 H, md_L8 H, mI_sD8, mS_sD8, md_R9 H, md_K9 H, md_L9 H, mI_sD9, mS_sD9, md_R10 H, md_K10 H, md_L10 H, mI_sD10, mS_sD10, md_R11 H, md_K11 H, md_L11 H, mI_sD11, mS_sD11, md_R12 H, md_K12 H, md_L12 H, mI_sD12, mS_sD12, md_R13 H, md_K13 H, md_L13 H, mI_sD13, mS_sD13, md_R14 H, md_K14 H, md_L14 H, mI_sD14, mS_sD14, md_R15 H, md_K15 H, md_L15 H, mI_sD15, mS_sD15, md_R16 H, md_K16 H, md_L16 H, mI_sD16, mS_sD16, md_R17 H, md_K17 H, md_L17 H, mI_sD17, mS_sD17, md_R18 H, md_K18 H, md_L18 H, mI_sD18, mS_sD18, md_R19 H, md_K19 H, md_L19 H, mI_sD19, mS_sD19, md_R20 H, md_K20 H, md_L20 H, mI_sD20, mS_sD20, md_R21 H, md_K21 H, md_L21 H, mI_sD21, mS_sD21, md_R22 H, md_K22 H, md_L22 H, mI_sD22, mS_sD22, md_R23 H, md_K23 H, md_L23 H, mI_sD23, mS_sD23, md_R24 H, md_K24 H, md_L24 H, mI_sD24, mS_sD24, md_R25 H, md_K25 H, md_L25 H, mI_sD25, mS_sD25, mI_sDs1640, mS_sDs1640, mI_sDs1641, mS_sDs1641, mI_sDs1642, mS_sDs1642, mI_sDs1666, mS_sDs1666, mI_sDs1667, mS_sDs1667, vi440, cl440, vi441, cl441, vi442, cl442, vi443, cl443, vi444, cl444, vi445, cl445, vi446, cl446, vi447, cl447, vi448, cl448, vi449, cl449, vi450, cl450, forall_eq, Option.some.injEq, exists_eq_left', true_and, m30, m11, m6, m4, nI_add, p1, p2, p3, p4, p5, p6, p7, p8, p9, p10, p11, p440, vin, cl, nle, nlt, neq, nI_i1, dU_ne, g_shU_ne, g_cpU_ne, hu]
      refine ⟨fun _ => ?_, fun h => absurd (by omega) h⟩
      rw [g_take, hg, hu, ← hc]
    | succ t ih =>
      intro c hc
      have go := ih (c + 1) (by omega)
      refine sg_Md_take_40 ?_
      simp (disch := omega) only [mKd_sD, mLn_sD, mR_sD, md_K H, md_R1 H, md_K1 H, md_L1 H, mI_sD1, mS_sD1, md_R2 H, md_K2 H, md_L2 H, mI_sD2, mS_sD2, md_R3 H, md_K3 H, md_L3 H, mI_sD3, mS_sD3, md_R4 H, md_K4 H, md_L4 H, mI_sD4, mS_sD4, md_R5 H, md_K5 H, md_L5 H, mI_sD5, mS_sD5, md_R6 H, md_K6 H, md_L6 H, mI_sD6, mS_sD6, md_R7 H, md_K7 H, md_L7 H, mI_sD7, mS_sD7, md_R8 H, md_K8 H, md_L8 H, mI_sD8, mS_sD8, md_R9 H, md_K9 H, md_L9 H, mI_sD9, mS_sD9, md_R10 H, md_K10 H, md_L10 H, mI_sD10, mS_sD10, md_R11 H, md_K11 H, md_L11 H, mI_sD11, mS_sD11, md_R12 H, md_K12 H, md_L12 H, mI_sD12, mS_sD12, md_R13 H, md_K13 H, md_L13 H, mI_sD13, mS_sD13, md_R14 H, md_K14 H, md_L14 H, mI_sD14, mS_sD14, md_R15 H, md_K15 H, md_L15 H, mI_sD15, mS_sD15, md_R16 H, md_K16 H, md_L16 H, mI_sD16, mS_sD16, md_R17 H, md_K17 H, md_L17 H, mI_sD17, mS_sD17, md_R18 H, md_K18 H, md_L18 H, mI_sD18, mS_sD18, md_R19 H, md_K19 H, md_L19 H, mI_sD19, mS_sD19, md_R20 H, md_K20 H, md_L20 H, mI_sD20, mS_sD20, md_R21 H, md_K21 H, md_L21 H, mI_sD21, mS_sD21, md_R22 H, md_K22 H, md_L22 H, mI_sD22, mS_sD22, md_R23 H, md_K23 H, md_L23 H, mI_sD23, mS_sD23, md_R24 H, md_K24 H, md_L24 H, mI_sD24, mS_sD24, md_R25 H, md_K25 H, md_L25 H, mI_sD25, mS_sD25, mI_sDs1640, mS_sDs1640, mI_sDs1641, mS_sDs1641, mI_sDs1642, mS_sDs1642, mI_sDs1666, mS_sDs1666, mI_sDs1667, mS_sDs1667, vi440, cl440, vi441, cl441, vi442, cl442, vi443, cl443, vi444, cl444, vi445, cl445, vi446, cl446, vi447, cl447, vi448, cl448, vi449, cl449, vi450, cl450, forall_eq, Option.some.injEq, exists_eq_left', true_and, m30, m11, m6, m4, nI_add, p1, p2, p3, p4, p5, p6, p7, p8, p9, p10, p11, p440, vin, cl, nle, nlt, neq, nI_i1, dU_ne, g_shU_ne, g_cpU_ne, hu]
      refine ⟨fun h => absurd h (by omega), fun _ => go⟩
  have loop1 : ∀ t c, t + c = 11 → EX eL X_Md_take 2 [some (.inr (some m)), some (.inl (nI k)), some (.inl (nI c))] [] (sD M m (g_cpU D k c)) (fun w N => w = none ∧ N = sD M m (g_take D k)) := by
    intro t
    induction t with
    | zero =>
      intro c hc
      have hc : c = 11 := by omega
      subst hc
      refine sg_Md_take_2 ?_
      refine ⟨fun _ x hx => ?_, fun h => absurd (by decide) h⟩
      subst hx
      rw [m11]
      exact loop2 _ 0 (Nat.add_zero _)
    | succ t ih =>
      intro c hc
      have go := ih (c + 1) (by omega)
      refine sg_Md_take_2 ?_
      refine ⟨fun h => ?_, fun _ => ?_⟩
      · rw [l11, nle (by omega) (by omega)] at h
        omega
      · simp (disch := omega) only [mKd_sD, mLn_sD, mR_sD, md_K H, md_R1 H, md_K1 H, md_L1 H, mI_sD1, mS_sD1, md_R2 H, md_K2 H, md_L2 H, mI_sD2, mS_sD2, md_R3 H, md_K3 H, md_L3 H, mI_sD3, mS_sD3, md_R4 H, md_K4 H, md_L4 H, mI_sD4, mS_sD4, md_R5 H, md_K5 H, md_L5 H, mI_sD5, mS_sD5, md_R6 H, md_K6 H, md_L6 H, mI_sD6, mS_sD6, md_R7 H, md_K7 H, md_L7 H, mI_sD7, mS_sD7, md_R8 H, md_K8 H, md_L8 H, mI_sD8, mS_sD8, md_R9 H, md_K9 H, md_L9 H, mI_sD9, mS_sD9, md_R10 H, md_K10 H, md_L10 H, mI_sD10, mS_sD10, md_R11 H, md_K11 H, md_L11 H, mI_sD11, mS_sD11, md_R12 H, md_K12 H, md_L12 H, mI_sD12, mS_sD12, md_R13 H, md_K13 H, md_L13 H, mI_sD13, mS_sD13, md_R14 H, md_K14 H, md_L14 H, mI_sD14, mS_sD14, md_R15 H, md_K15 H, md_L15 H, mI_sD15, mS_sD15, md_R16 H, md_K16 H, md_L16 H, mI_sD16, mS_sD16, md_R17 H, md_K17 H, md_L17 H, mI_sD17, mS_sD17, md_R18 H, md_K18 H, md_L18 H, mI_sD18, mS_sD18, md_R19 H, md_K19 H, md_L19 H, mI_sD19, mS_sD19, md_R20 H, md_K20 H, md_L20 H, mI_sD20, mS_sD20, md_R21 H, md_K21 H, md_L21 H, mI_sD21, mS_sD21, md_R22 H, md_K22 H, md_L22 H, mI_sD22, mS_sD22, md_R23 H, md_K23 H, md_L23 H, mI_sD23, mS_sD23, md_R24 H, md_K24 H, md_L24 H, mI_sD24, mS_sD24, md_R25 H, md_K25 H, md_L25 H, mI_sD25, mS_sD25, mI_sDs1640, mS_sDs1640, mI_sDs1641, mS_sDs1641, mI_sDs1642, mS_sDs1642, mI_sDs1666, mS_sDs1666, mI_sDs1667, mS_sDs1667, vi440, cl440, vi441, cl441, vi442, cl442, vi443, cl443, vi444, cl444, vi445, cl445, vi446, cl446, vi447, cl447, vi448, cl448, vi449, cl449, vi450, cl450, forall_eq, Option.some.injEq, exists_eq_left', true_and, m30, m11, m6, m4, nI_add, p1, p2, p3, p4, p5, p6, p7, p8, p9, p10, p11, p440, vin, cl, nle, nlt, neq, nI_i1, dU_ne]
        exact go
  exact loop1 11 0 (by omega)
theorem c_Md_settle (H : mdl M m) {a : Nat} (ha : a < 150) : EX eL X_Md_settle 0 [some (.inr (some m)), some (.inl (nI a))] [] (sD M m D) (fun w N => w = none ∧ N = sD M m (g_settle D a 3)) := by
  refine sg_Md_settle_0 ?_
  simp (disch := omega) only [mKd_sD, mLn_sD, mR_sD, md_K H, md_R1 H, md_K1 H, md_L1 H, mI_sD1, mS_sD1, md_R2 H, md_K2 H, md_L2 H, mI_sD2, mS_sD2, md_R3 H, md_K3 H, md_L3 H, mI_sD3, mS_sD3, md_R4 H, md_K4 H, md_L4 H, mI_sD4, mS_sD4, md_R5 H, md_K5 H, md_L5 H, mI_sD5, mS_sD5, md_R6 H, md_K6 H, md_L6 H, mI_sD6, mS_sD6, md_R7 H, md_K7 H, md_L7 H, mI_sD7, mS_sD7, md_R8 H, md_K8 H, md_L8 H, mI_sD8, mS_sD8, md_R9 H, md_K9 H, md_L9 H, mI_sD9, mS_sD9, md_R10 H, md_K10 H, md_L10 H, mI_sD10, mS_sD10, md_R11 H, md_K11 H, md_L11 H, mI_sD11, mS_sD11, md_R12 H, md_K12 H, md_L12 H, mI_sD12, mS_sD12, md_R13 H, md_K13 H, md_L13 H, mI_sD13, mS_sD13, md_R14 H, md_K14 H, md_L14 H, mI_sD14, mS_sD14, md_R15 H, md_K15 H, md_L15 H, mI_sD15, mS_sD15, md_R16 H, md_K16 H, md_L16 H, mI_sD16, mS_sD16, md_R17 H, md_K17 H, md_L17 H, mI_sD17, mS_sD17, md_R18 H, md_K18 H, md_L18 H, mI_sD18, mS_sD18, md_R19 H, md_K19 H, md_L19 H, mI_sD19, mS_sD19, md_R20 H, md_K20 H, md_L20 H, mI_sD20, mS_sD20, md_R21 H, md_K21 H, md_L21 H, mI_sD21, mS_sD21, md_R22 H, md_K22 H, md_L22 H, mI_sD22, mS_sD22, md_R23 H, md_K23 H, md_L23 H, mI_sD23, mS_sD23, md_R24 H, md_K24 H, md_L24 H, mI_sD24, mS_sD24, md_R25 H, md_K25 H, md_L25 H, mI_sD25, mS_sD25, mI_sDs1640, mS_sDs1640, mI_sDs1641, mS_sDs1641, mI_sDs1642, mS_sDs1642, mI_sDs1666, mS_sDs1666, mI_sDs1667, mS_sDs1667, vi440, cl440, vi441, cl441, vi442, cl442, vi443, cl443, vi444, cl444, vi445, cl445, vi446, cl446, vi447, cl447, vi448, cl448, vi449, cl449, vi450, cl450, forall_eq, Option.some.injEq, exists_eq_left', true_and, m30, m11, m6, m4, nI_add, p1, p2, p3, p4, p5, p6, p7, p8, p9, p10, p11, p440, vin, cl, nle, nlt, neq, nI_i1, dU_ne]
  refine EX.mono (c_Md_put H ha) fun w N hv => ?_
  obtain ⟨rfl, rfl⟩ := hv
  simp (disch := omega) only [mKd_sD, mLn_sD, mR_sD, md_K H, md_R1 H, md_K1 H, md_L1 H, mI_sD1, mS_sD1, md_R2 H, md_K2 H, md_L2 H, mI_sD2, mS_sD2, md_R3 H, md_K3 H, md_L3 H, mI_sD3, mS_sD3, md_R4 H, md_K4 H, md_L4 H, mI_sD4, mS_sD4, md_R5 H, md_K5 H, md_L5 H, mI_sD5, mS_sD5, md_R6 H, md_K6 H, md_L6 H, mI_sD6, mS_sD6, md_R7 H, md_K7 H, md_L7 H, mI_sD7, mS_sD7, md_R8 H, md_K8 H, md_L8 H, mI_sD8, mS_sD8, md_R9 H, md_K9 H, md_L9 H, mI_sD9, mS_sD9, md_R10 H, md_K10 H, md_L10 H, mI_sD10, mS_sD10, md_R11 H, md_K11 H, md_L11 H, mI_sD11, mS_sD11, md_R12 H, md_K12 H, md_L12 H, mI_sD12, mS_sD12, md_R13 H, md_K13 H, md_L13 H, mI_sD13, mS_sD13, md_R14 H, md_K14 H, md_L14 H, mI_sD14, mS_sD14, md_R15 H, md_K15 H, md_L15 H, mI_sD15, mS_sD15, md_R16 H, md_K16 H, md_L16 H, mI_sD16, mS_sD16, md_R17 H, md_K17 H, md_L17 H, mI_sD17, mS_sD17, md_R18 H, md_K18 H, md_L18 H, mI_sD18, mS_sD18, md_R19 H, md_K19 H, md_L19 H, mI_sD19, mS_sD19, md_R20 H, md_K20 H, md_L20 H, mI_sD20, mS_sD20, md_R21 H, md_K21 H, md_L21 H, mI_sD21, mS_sD21, md_R22 H, md_K22 H, md_L22 H, mI_sD22, mS_sD22, md_R23 H, md_K23 H, md_L23 H, mI_sD23, mS_sD23, md_R24 H, md_K24 H, md_L24 H, mI_sD24, mS_sD24, md_R25 H, md_K25 H, md_L25 H, mI_sD25, mS_sD25, mI_sDs1640, mS_sDs1640, mI_sDs1641, mS_sDs1641, mI_sDs1642, mS_sDs1642, mI_sDs1666, mS_sDs1666, mI_sDs1667, mS_sDs1667, vi440, cl440, vi441, cl441, vi442, cl442, vi443, cl443, vi444, cl444, vi445, cl445, vi446, cl446, vi447, cl447, vi448, cl448, vi449, cl449, vi450, cl450, forall_eq, Option.some.injEq, exists_eq_left', true_and, m30, m11, m6, m4, nI_add, p1, p2, p3, p4, p5, p6, p7, p8, p9, p10, p11, p440, vin, cl, nle, nlt, neq, nI_i1, dU_ne, g_put_ne]
  rfl
theorem c_Md_preaccept (H : mdl M m) (hI : D 1642 0 = nI (6 * n)) (hn : n ≤ 5) (hu : uOK D) (hr : r < 5) (hi : i < 30) {fr : Nat} : EX eL X_Md_preaccept 0 [some (.inr (some m)), some (.inl (nI r)), some (.inl (nI fr)), some (.inl (nI i)), none, none] [] (sD M m D) (fun w N => w = none ∧ N = sD M m (g_preaccept D n r fr i)) := by
  refine sg_Md_preaccept_0 ?_
  have go : ¬ (D 24 444 < D 9 (30 * r + i) ∨ (D 4 (30 * r + i) = 2 ∧ D 10 (30 * r + i) = D 24 444)) → EX eL X_Md_fit 0 [some (.inr (some m)), some (.inl (nI r)), some (.inl (nI i)), some (.inl (D 24 445)), some (.inl (D 24 446)), some (.inl (D 24 447)), some (.inl (D 24 448)), none, none, none] [] (sD M m (dU (dU D 9 (30 * r + i) (D 24 444)) 10 (30 * r + i) (D 24 444)))
      (fun w N => w = none ∧ mKd N m = 11 ∧ EX eL X_Md_send 0 [some (.inr (some m)), some (.inl 1), some (.inl (nI r)), some (.inl (nI fr)), some (.inl (nI i)), some (.inl (D 24 444)), none, none] [] N (fun w N => w = none ∧ N = sD M m (g_preaccept D n r fr i))) := by
    intro h
    refine EX.mono (c_Md_fit H (n := n) (by rw [dU_ne _ (by decide), dU_ne _ (by decide)]; exact hI) hn hr hi) fun w N hv => ?_
    obtain ⟨rfl, rfl⟩ := hv
    refine ⟨rfl, md_K H, EX.mono (c_Md_send' H (hu.to ?_) hr hi) fun w N hv => ?_⟩
    · rw [g_fit_ne (by decide) (by decide) (by decide) (by decide) (by decide), dU_ne _ (by decide), dU_ne _ (by decide)]
    · obtain ⟨rfl, rfl⟩ := hv
      rw [g_preaccept, if_neg h]
      exact ⟨rfl, rfl⟩
  simp (disch := omega) only [mKd_sD, mLn_sD, mR_sD, md_K H, md_R1 H, md_K1 H, md_L1 H, mI_sD1, mS_sD1, md_R2 H, md_K2 H, md_L2 H, mI_sD2, mS_sD2, md_R3 H, md_K3 H, md_L3 H, mI_sD3, mS_sD3, md_R4 H, md_K4 H, md_L4 H, mI_sD4, mS_sD4, md_R5 H, md_K5 H, md_L5 H, mI_sD5, mS_sD5, md_R6 H, md_K6 H, md_L6 H, mI_sD6, mS_sD6, md_R7 H, md_K7 H, md_L7 H, mI_sD7, mS_sD7, md_R8 H, md_K8 H, md_L8 H, mI_sD8, mS_sD8, md_R9 H, md_K9 H, md_L9 H, mI_sD9, mS_sD9, md_R10 H, md_K10 H, md_L10 H, mI_sD10, mS_sD10, md_R11 H, md_K11 H, md_L11 H, mI_sD11, mS_sD11, md_R12 H, md_K12 H, md_L12 H, mI_sD12, mS_sD12, md_R13 H, md_K13 H, md_L13 H, mI_sD13, mS_sD13, md_R14 H, md_K14 H, md_L14 H, mI_sD14, mS_sD14, md_R15 H, md_K15 H, md_L15 H, mI_sD15, mS_sD15, md_R16 H, md_K16 H, md_L16 H, mI_sD16, mS_sD16, md_R17 H, md_K17 H, md_L17 H, mI_sD17, mS_sD17, md_R18 H, md_K18 H, md_L18 H, mI_sD18, mS_sD18, md_R19 H, md_K19 H, md_L19 H, mI_sD19, mS_sD19, md_R20 H, md_K20 H, md_L20 H, mI_sD20, mS_sD20, md_R21 H, md_K21 H, md_L21 H, mI_sD21, mS_sD21, md_R22 H, md_K22 H, md_L22 H, mI_sD22, mS_sD22, md_R23 H, md_K23 H, md_L23 H, mI_sD23, mS_sD23, md_R24 H, md_K24 H, md_L24 H, mI_sD24, mS_sD24, md_R25 H, md_K25 H, md_L25 H, mI_sD25, mS_sD25, mI_sDs1640, mS_sDs1640, mI_sDs1641, mS_sDs1641, mI_sDs1642, mS_sDs1642, mI_sDs1666, mS_sDs1666, mI_sDs1667, mS_sDs1667, vi440, cl440, vi441, cl441, vi442, cl442, vi443, cl443, vi444, cl444, vi445, cl445, vi446, cl446, vi447, cl447, vi448, cl448, vi449, cl449, vi450, cl450, forall_eq, Option.some.injEq, exists_eq_left', true_and, m30, m11, m6, m4, nI_add, p1, p2, p3, p4, p5, p6, p7, p8, p9, p10, p11, p440, vin, cl, nle, nlt, neq, nI_i1, dU_ne]
  refine ⟨fun h => ?_, fun h => ⟨fun h2 => ?_, fun h2 => ⟨fun h3 => ?_, fun h3 => ?_⟩⟩⟩
  · rw [g_preaccept, if_pos (Or.inl h)]
  · exact go (fun z => by rcases z with z | z; exact h z; exact h2 z.1)
  · exact go (fun z => by rcases z with z | z; exact h z; exact h3 z.2)
  · rw [g_preaccept, if_pos (Or.inr ⟨h2, h3⟩)]
end MC4
