/-! contracts of the reference, leaves first -/
section MC1
variable {M : me_M} {m : Nat} {D : me_D}
def b01 (b : Bool) : Int32 := if b = true then 1 else 0
theorem c_Md_interfere {c d : Int32} {M : me_M} : EX eL X_Md_interfere 0 [some (.inl c), some (.inl d)] [] M (fun v N => v = some (.inl (b01 (g_int c d))) ∧ N = M) := by
  refine sg_Md_interfere_0 ?_
  simp only [b01, g_int, and_true, Option.some.injEq, Sum.inl.injEq]
  by_cases h1 : c = 8 <;> by_cases h2 : d = 8 <;> by_cases h3 : c &&& 3 = d &&& 3 <;> by_cases h4 : 4 ≤ c <;> by_cases h5 : 4 ≤ d <;> simp [h1, h2, h3, h4, h5]
theorem c_Md_put (H : mdl M m) {a : Nat} (ha : a < 150) {w c v : Int32} : EX eL X_Md_put 0 [some (.inr (some m)), some (.inl (nI a)), some (.inl w), some (.inl c), some (.inl v)] [] (sD M m D) (fun r N => r = none ∧ N = sD M m (g_put D a w c v)) := by
  refine sg_Md_put_0 ?_
  simp (disch := omega) only [mKd_sD, mLn_sD, mR_sD, md_K H, md_R1 H, md_K1 H, md_L1 H, mI_sD1, mS_sD1, md_R2 H, md_K2 H, md_L2 H, mI_sD2, mS_sD2, md_R3 H, md_K3 H, md_L3 H, mI_sD3, mS_sD3, md_R4 H, md_K4 H, md_L4 H, mI_sD4, mS_sD4, md_R5 H, md_K5 H, md_L5 H, mI_sD5, mS_sD5, md_R6 H, md_K6 H, md_L6 H, mI_sD6, mS_sD6, md_R7 H, md_K7 H, md_L7 H, mI_sD7, mS_sD7, md_R8 H, md_K8 H, md_L8 H, mI_sD8, mS_sD8, md_R9 H, md_K9 H, md_L9 H, mI_sD9, mS_sD9, md_R10 H, md_K10 H, md_L10 H, mI_sD10, mS_sD10, md_R11 H, md_K11 H, md_L11 H, mI_sD11, mS_sD11, md_R12 H, md_K12 H, md_L12 H, mI_sD12, mS_sD12, md_R13 H, md_K13 H, md_L13 H, mI_sD13, mS_sD13, md_R14 H, md_K14 H, md_L14 H, mI_sD14, mS_sD14, md_R15 H, md_K15 H, md_L15 H, mI_sD15, mS_sD15, md_R16 H, md_K16 H, md_L16 H, mI_sD16, mS_sD16, md_R17 H, md_K17 H, md_L17 H, mI_sD17, mS_sD17, md_R18 H, md_K18 H, md_L18 H, mI_sD18, mS_sD18, md_R19 H, md_K19 H, md_L19 H, mI_sD19, mS_sD19, md_R20 H, md_K20 H, md_L20 H, mI_sD20, mS_sD20, md_R21 H, md_K21 H, md_L21 H, mI_sD21, mS_sD21, md_R22 H, md_K22 H, md_L22 H, mI_sD22, mS_sD22, md_R23 H, md_K23 H, md_L23 H, mI_sD23, mS_sD23, md_R24 H, md_K24 H, md_L24 H, mI_sD24, mS_sD24, md_R25 H, md_K25 H, md_L25 H, mI_sD25, mS_sD25, mI_sDs1640, mS_sDs1640, mI_sDs1641, mS_sDs1641, mI_sDs1642, mS_sDs1642, mI_sDs1666, mS_sDs1666, mI_sDs1667, mS_sDs1667, forall_eq, Option.some.injEq, exists_eq_left', true_and, vin, cl]
  trivial
theorem c_Md_related (H : mdl M m) {r i j : Nat} {c : Int32} (hr : r < 5) (hi : i < 30) (hj : j < 30) : EX eL X_Md_related 0 [some (.inr (some m)), some (.inl (nI r)), some (.inl (nI i)), some (.inl (nI j)), some (.inl c), none] [] (sD M m D) (fun v N => v = some (.inl (b01 (g_rel D r i j c))) ∧ N = sD M m D) := by
  refine sg_Md_related_0 ?_
  simp (disch := omega) only [mKd_sD, mLn_sD, mR_sD, md_K H, md_R1 H, md_K1 H, md_L1 H, mI_sD1, mS_sD1, md_R2 H, md_K2 H, md_L2 H, mI_sD2, mS_sD2, md_R3 H, md_K3 H, md_L3 H, mI_sD3, mS_sD3, md_R4 H, md_K4 H, md_L4 H, mI_sD4, mS_sD4, md_R5 H, md_K5 H, md_L5 H, mI_sD5, mS_sD5, md_R6 H, md_K6 H, md_L6 H, mI_sD6, mS_sD6, md_R7 H, md_K7 H, md_L7 H, mI_sD7, mS_sD7, md_R8 H, md_K8 H, md_L8 H, mI_sD8, mS_sD8, md_R9 H, md_K9 H, md_L9 H, mI_sD9, mS_sD9, md_R10 H, md_K10 H, md_L10 H, mI_sD10, mS_sD10, md_R11 H, md_K11 H, md_L11 H, mI_sD11, mS_sD11, md_R12 H, md_K12 H, md_L12 H, mI_sD12, mS_sD12, md_R13 H, md_K13 H, md_L13 H, mI_sD13, mS_sD13, md_R14 H, md_K14 H, md_L14 H, mI_sD14, mS_sD14, md_R15 H, md_K15 H, md_L15 H, mI_sD15, mS_sD15, md_R16 H, md_K16 H, md_L16 H, mI_sD16, mS_sD16, md_R17 H, md_K17 H, md_L17 H, mI_sD17, mS_sD17, md_R18 H, md_K18 H, md_L18 H, mI_sD18, mS_sD18, md_R19 H, md_K19 H, md_L19 H, mI_sD19, mS_sD19, md_R20 H, md_K20 H, md_L20 H, mI_sD20, mS_sD20, md_R21 H, md_K21 H, md_L21 H, mI_sD21, mS_sD21, md_R22 H, md_K22 H, md_L22 H, mI_sD22, mS_sD22, md_R23 H, md_K23 H, md_L23 H, mI_sD23, mS_sD23, md_R24 H, md_K24 H, md_L24 H, mI_sD24, mS_sD24, md_R25 H, md_K25 H, md_L25 H, mI_sD25, mS_sD25, mI_sDs1640, mS_sDs1640, mI_sDs1641, mS_sDs1641, mI_sDs1642, mS_sDs1642, mI_sDs1666, mS_sDs1666, mI_sDs1667, mS_sDs1667, forall_eq, Option.some.injEq, exists_eq_left', true_and, m30, nI_add, vin, cl, neq]
  refine ⟨fun h => ?_, fun h => ⟨fun h2 => ?_, fun h2 => ?_⟩⟩
  · simp [g_rel, b01, h]
  · simp [g_rel, b01, h2]
  · refine EX.mono c_Md_interfere fun v N hv => ?_
    obtain ⟨rfl, rfl⟩ := hv
    refine ⟨_, rfl, fun h3 => ?_, fun h3 => ?_⟩
    · have : g_int (D 5 (30 * r + j)) c = false := by
        cases hb : g_int (D 5 (30 * r + j)) c
        · rfl
        · rw [hb] at h3; exact absurd h3 (by decide)
      simp [g_rel, b01, this]
    · have : g_int (D 5 (30 * r + j)) c = true := by
        cases hb : g_int (D 5 (30 * r + j)) c
        · rw [hb] at h3; exact absurd rfl h3
        · rfl
      simp [g_rel, b01, this, h, h2]
end MC1
