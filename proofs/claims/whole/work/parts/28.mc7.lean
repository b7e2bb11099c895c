section MC7
variable {M : me_M} {m : Nat} {D : me_D} {n r i : Nat}
theorem c_Md_afterPre (H : mdl M m) (hN : D 1640 0 = nI n) (hn : n ≤ 5) (hu : uOK D) (hr : r < 5) (hi : i < 30) {c : Nat} (hc : D 16 (30 * r + i) = nI c) (hc4 : c ≤ 4) : EX eL X_Md_afterPreaccept 0 [some (.inr (some m)), some (.inl (nI r)), some (.inl (nI i)), none, none, none, none, none] [] (sD M m D) (fun w N => w = none ∧ N = sD M m (g_afterPre D n r i)) := by
  refine sg_Md_afterPreaccept_0 ?_
  have hg : g_ct D (30 * r + i) = c := by unfold g_ct; rw [hc]; exact cl (by omega)
  have loop : ∀ t k, t + k = c → EX eL X_Md_afterPreaccept 28 [some (.inr (some m)), some (.inl (nI r)), some (.inl (nI i)), some (.inl (nI (30 * r + i))), some (.inl (b01 (g_apU D (30 * r + i) k).1)), some (.inl (g_apU D (30 * r + i) k).2.1), some (.inl (g_apU D (30 * r + i) k).2.2), some (.inl (nI (4 * (30 * r + i) + k)))] [] (sD M m D) (fun w N => w = none ∧ N = sD M m (g_afterPre D n r i)) := by
    intro t
    induction t with
    | zero =>
      intro k hk
      have hk : k = c := by omega
      subst hk
      refine sg_Md_afterPreaccept_28 ?_
      simp (disch := omega) only [mKd_sD, mLn_sD, mR_sD, md_K H, md_R1 H, md_K1 H, md_L1 H, mI_sD1, mS_sD1, md_R2 H, md_K2 H, md_L2 H, mI_sD2, mS_sD2, md_R3 H, md_K3 H, md_L3 H, mI_sD3, mS_sD3, md_R4 H, md_K4 H, md_L4 H, mI_sD4, mS_sD4, md_R5 H, md_K5 H, md_L5 H, mI_sD5, mS_sD5, md_R6 H, md_K6 H, md_L6 H, mI_sD6, mS_sD6, md_R7 H, md_K7 H, md_L7 H, mI_sD7, mS_sD7, md_R8 H, md_K8 H, md_L8 H, mI_sD8, mS_sD8, md_R9 H, md_K9 H, md_L9 H, mI_sD9, mS_sD9, md_R10 H, md_K10 H, md_L10 H, mI_sD10, mS_sD10, md_R11 H, md_K11 H, md_L11 H, mI_sD11, mS_sD11, md_R12 H, md_K12 H, md_L12 H, mI_sD12, mS_sD12, md_R13 H, md_K13 H, md_L13 H, mI_sD13, mS_sD13, md_R14 H, md_K14 H, md_L14 H, mI_sD14, mS_sD14, md_R15 H, md_K15 H, md_L15 H, mI_sD15, mS_sD15, md_R16 H, md_K16 H, md_L16 H, mI_sD16, mS_sD16, md_R17 H, md_K17 H, md_L17 H, mI_sD17, mS_sD17, md_R18 H, md_K18 H, md_L18 H, mI_sD18, mS_sD18, md_R19 H, md_K19 H, md_L19 H, mI_sD19, mS_sD19, md_R20 H, md_K20 H, md_L20 H, mI_sD20, mS_sD20, md_R21 H, md_K21 H, md_L21 H, mI_sD21, mS_sD21, md_R22 H, md_K22 H, md_L22 H, mI_sD22, mS_sD22, md_R23 H, md_K23 H, md_L23 H, mI_sD23, mS_sD23, md_R24 H, md_K24 H, md_L24 H, mI_sD24, mS_sD24, md_R25 H, md_K25 H, md_L25 H, mI_sD25, mS_sD25, mI_sDs1640, mS_sDs1640, mI_sDs1641, mS_sDs1641, mI_sDs1642, mS_sDs1642, mI_sDs1666, mS_sDs1666, mI_sDs1667, mS_sDs1667, vi440, cl440, vi441, cl441, vi442, cl442, vi443, cl443, vi444, cl444, vi445, cl445, vi446, cl446, vi447, cl447, vi448, cl448, vi449, cl449, vi450, cl450, forall_eq, Option.some.injEq, exists_eq_left', true_and, m30, m11, m6, m4, nI_add, p1, p2, p3, p4, p5, p6, p7, p8, p9, p10, p11, p440, vin, cl, nle, nlt, neq, nI_i1, dU_ne, hc]
      have hA : ¬ (D 14 (30 * r + i) = 0 ∧ (g_apU D (30 * r + i) k).1 = true) → (nI k < D 1641 0 → sD M m D = sD M m (g_afterPre D n r i)) ∧ (¬ nI k < D 1641 0 → EX eL X_Md_agree 0 [some (.inr (some m)), some (.inl (nI r)), some (.inl (nI i)), some (.inl (D 5 (30 * r + i))), some (.inl (D 6 (30 * r + i))), some (.inl (g_apU D (30 * r + i) k).2.1), some (.inl (g_apU D (30 * r + i) k).2.2), none] [] (sD M m D) (fun w N => w = none ∧ N = sD M m (g_afterPre D n r i))) := by
        intro hx
        refine ⟨fun h => ?_, fun h => ?_⟩
        · unfold g_afterPre
          simp only [hg]
          rw [if_neg hx, if_neg (by rw [hc]; exact Int32.not_le.mpr h)]
        · refine EX.mono (c_Md_agree H hN hn hu hr hi) fun w N hv => ?_
          obtain ⟨rfl, rfl⟩ := hv
          refine ⟨rfl, ?_⟩
          unfold g_afterPre
          simp only [hg]
          rw [if_neg hx, if_pos (by rw [hc]; exact Int32.not_lt.mp h)]
      refine ⟨fun _ => ⟨fun h => hA (fun z => h z.1), fun h => ⟨fun h2 => hA (fun z => by rw [z.2] at h2; exact absurd h2 (by decide)), fun h2 => ⟨fun h3 => ?_, fun h3 => ?_⟩⟩⟩, fun h => absurd (Nat.le_refl _) h⟩
      · unfold g_afterPre
        simp only [hg]
        rw [if_pos ⟨h, b01_1 h2⟩, if_neg (by rw [hc, ← hN]; exact h3)]
      · refine EX.mono (c_Md_finish H hN hn hu hr hi) fun w N hv => ?_
        obtain ⟨rfl, rfl⟩ := hv
        refine ⟨rfl, ?_⟩
        unfold g_afterPre
        simp only [hg]
        rw [if_pos ⟨h, b01_1 h2⟩, if_pos (by rw [hc, ← hN]; exact h3)]
    | succ t ih =>
      intro k hk
      have go := ih (k + 1) (by omega)
      rw [g_apU] at go
      refine sg_Md_afterPreaccept_28 ?_
      simp (disch := omega) only [mKd_sD, mLn_sD, mR_sD, md_K H, md_R1 H, md_K1 H, md_L1 H, mI_sD1, mS_sD1, md_R2 H, md_K2 H, md_L2 H, mI_sD2, mS_sD2, md_R3 H, md_K3 H, md_L3 H, mI_sD3, mS_sD3, md_R4 H, md_K4 H, md_L4 H, mI_sD4, mS_sD4, md_R5 H, md_K5 H, md_L5 H, mI_sD5, mS_sD5, md_R6 H, md_K6 H, md_L6 H, mI_sD6, mS_sD6, md_R7 H, md_K7 H, md_L7 H, mI_sD7, mS_sD7, md_R8 H, md_K8 H, md_L8 H, mI_sD8, mS_sD8, md_R9 H, md_K9 H, md_L9 H, mI_sD9, mS_sD9, md_R10 H, md_K10 H, md_L10 H, mI_sD10, mS_sD10, md_R11 H, md_K11 H, md_L11 H, mI_sD11, mS_sD11, md_R12 H, md_K12 H, md_L12 H, mI_sD12, mS_sD12, md_R13 H, md_K13 H, md_L13 H, mI_sD13, mS_sD13, md_R14 H, md_K14 H, md_L14 H, mI_sD14, mS_sD14, md_R15 H, md_K15 H, md_L15 H, mI_sD15, mS_sD15, md_R16 H, md_K16 H, md_L16 H, mI_sD16, mS_sD16, md_R17 H, md_K17 H, md_L17 H, mI_sD17, mS_sD17, md_R18 H, md_K18 H, md_L18 H, mI_sD18, mS_sD18, md_R19 H, md_K19 H, md_L19 H, mI_sD19, mS_sD19, md_R20 H, md_K20 H, md_L20 H, mI_sD20, mS_sD20, md_R21 H, md_K21 H, md_L21 H, mI_sD21, mS_sD21, md_R22 H, md_K22 H, md_L22 H, mI_sD22, mS_sD22, md_R23 H, md_K23 H, md_L23 H, mI_sD23, mS_sD23, md_R24 H, md_K24 H, md_L24 H, mI_sD24, mS_sD24, md_R25 H, md_K25 H, md_L25 H, mI_sD25, mS_sD25, mI_sDs1640, mS_sDs1640, mI_sDs1641, mS_sDs1641, mI_sDs1642, mS_sDs1642, mI_sDs1666, mS_sDs1666, mI_sDs1667, mS_sDs1667, vi440, cl440, vi441, cl441, vi442, cl442, vi443, cl443, vi444, cl444, vi445, cl445, vi446, cl446, vi447, cl447, vi448, cl448, vi449, cl449, vi450, cl450, forall_eq, Option.some.injEq, exists_eq_left', true_and, m30, m11, m6, m4, nI_add, p1, p2, p3, p4, p5, p6, p7, p8, p9, p10, p11, p440, vin, cl, nle, nlt, neq, nI_i1, dU_ne, hc]
      refine ⟨fun h => absurd h (by omega), fun _ => ⟨fun h => ?_, fun h => ⟨fun h2 => ?_, fun h2 => ⟨fun h3 => ?_, fun h3 => ?_⟩⟩⟩⟩
      · rw [b01_0 h] at go
        exact ⟨fun h4 => by rw [if_pos h4] at go; exact go, fun h4 => by rw [if_neg h4] at go; exact go⟩
      · simp only [h2, decide_false, Bool.and_false, Bool.false_and] at go
        exact ⟨fun h4 => by rw [if_pos h4] at go; exact go, fun h4 => by rw [if_neg h4] at go; exact go⟩
      · simp only [h3, decide_false, Bool.and_false] at go
        exact ⟨fun h4 => by rw [if_pos h4] at go; exact go, fun h4 => by rw [if_neg h4] at go; exact go⟩
      · rw [b01_1 h] at go
        simp only [decide_eq_true h2, decide_eq_true h3, Bool.and_true] at go
        exact ⟨fun h4 => by rw [if_pos h4] at go; exact go, fun h4 => by rw [if_neg h4] at go; exact go⟩
  simp (disch := omega) only [mKd_sD, mLn_sD, mR_sD, md_K H, md_R1 H, md_K1 H, md_L1 H, mI_sD1, mS_sD1, md_R2 H, md_K2 H, md_L2 H, mI_sD2, mS_sD2, md_R3 H, md_K3 H, md_L3 H, mI_sD3, mS_sD3, md_R4 H, md_K4 H, md_L4 H, mI_sD4, mS_sD4, md_R5 H, md_K5 H, md_L5 H, mI_sD5, mS_sD5, md_R6 H, md_K6 H, md_L6 H, mI_sD6, mS_sD6, md_R7 H, md_K7 H, md_L7 H, mI_sD7, mS_sD7, md_R8 H, md_K8 H, md_L8 H, mI_sD8, mS_sD8, md_R9 H, md_K9 H, md_L9 H, mI_sD9, mS_sD9, md_R10 H, md_K10 H, md_L10 H, mI_sD10, mS_sD10, md_R11 H, md_K11 H, md_L11 H, mI_sD11, mS_sD11, md_R12 H, md_K12 H, md_L12 H, mI_sD12, mS_sD12, md_R13 H, md_K13 H, md_L13 H, mI_sD13, mS_sD13, md_R14 H, md_K14 H, md_L14 H, mI_sD14, mS_sD14, md_R15 H, md_K15 H, md_L15 H, mI_sD15, mS_sD15, md_R16 H, md_K16 H, md_L16 H, mI_sD16, mS_sD16, md_R17 H, md_K17 H, md_L17 H, mI_sD17, mS_sD17, md_R18 H, md_K18 H, md_L18 H, mI_sD18, mS_sD18, md_R19 H, md_K19 H, md_L19 H, mI_sD19, mS_sD19, md_R20 H, md_K20 H, md_L20 H, mI_sD20, mS_sD20, md_R21 H, md_K21 H, md_L21 H, mI_sD21, mS_sD21, md_R22 H, md_K22 H, md_L22 H, mI_sD22, mS_sD22, md_R23 H, md_K23 H, md_L23 H, mI_sD23, mS_sD23, md_R24 H, md_K24 H, md_L24 H, mI_sD24, mS_sD24, md_R25 H, md_K25 H, md_L25 H, mI_sD25, mS_sD25, mI_sDs1640, mS_sDs1640, mI_sDs1641, mS_sDs1641, mI_sDs1642, mS_sDs1642, mI_sDs1666, mS_sDs1666, mI_sDs1667, mS_sDs1667, vi440, cl440, vi441, cl441, vi442, cl442, vi443, cl443, vi444, cl444, vi445, cl445, vi446, cl446, vi447, cl447, vi448, cl448, vi449, cl449, vi450, cl450, forall_eq, Option.some.injEq, exists_eq_left', true_and, m30, m11, m6, m4, nI_add, p1, p2, p3, p4, p5, p6, p7, p8, p9, p10, p11, p440, vin, cl, nle, nlt, neq, nI_i1, dU_ne]
  exact loop c 0 (by omega)
end MC7
