section MC9
variable {M : me_M} {m : Nat} {D : me_D} {n r i : Nat}
theorem nrem {a n : Nat} (ha : a < 2147483648) (h0 : 0 < n) (hn : n < 2147483648) : nI a - nI a / nI n * nI n = nI (a % n) := by
  have e : nI a / nI n = nI (a / n) := (Int32.ofNat_div (a := a) (b := n) (by omega) (by omega)).symm
  rw [e, nI_mul, nI_sub (Nat.div_mul_le_self a n)]
  congr 1
  have := Nat.div_add_mod a n
  rw [Nat.mul_comm] at this
  omega
theorem nne0 {n : Nat} (h0 : 0 < n) (hn : n < 2147483648) : ¬ nI n = 0 := nI_ne0 h0 (by omega)
theorem a4 (k : Nat) : (4 : Int32) + nI k = nI (4 + k) := nI_add 4 k
theorem l2 : (2 : Int32) = nI 2 := rfl
theorem n_2 {n : Nat} (h : 2 ≤ n) : nI n - 2 = nI (n - 2) := nI_sub (a := n) (b := 2) h
theorem c_Md_lose_bad (H : mdl M m) {v : Int32} (hv : v < 0 ∨ ¬ v < D 1666 0) : EX eL X_Md_lose 0 [some (.inr (some m)), some (.inl v)] [] (sD M m D) (fun w N => w = some (.inl 0) ∧ N = sD M m D) := by
  refine sg_Md_lose_0 ?_
  simp (disch := omega) only [mKd_sD, mLn_sD, mR_sD, md_K H, md_R1 H, md_K1 H, md_L1 H, mI_sD1, mS_sD1, md_R2 H, md_K2 H, md_L2 H, mI_sD2, mS_sD2, md_R3 H, md_K3 H, md_L3 H, mI_sD3, mS_sD3, md_R4 H, md_K4 H, md_L4 H, mI_sD4, mS_sD4, md_R5 H, md_K5 H, md_L5 H, mI_sD5, mS_sD5, md_R6 H, md_K6 H, md_L6 H, mI_sD6, mS_sD6, md_R7 H, md_K7 H, md_L7 H, mI_sD7, mS_sD7, md_R8 H, md_K8 H, md_L8 H, mI_sD8, mS_sD8, md_R9 H, md_K9 H, md_L9 H, mI_sD9, mS_sD9, md_R10 H, md_K10 H, md_L10 H, mI_sD10, mS_sD10, md_R11 H, md_K11 H, md_L11 H, mI_sD11, mS_sD11, md_R12 H, md_K12 H, md_L12 H, mI_sD12, mS_sD12, md_R13 H, md_K13 H, md_L13 H, mI_sD13, mS_sD13, md_R14 H, md_K14 H, md_L14 H, mI_sD14, mS_sD14, md_R15 H, md_K15 H, md_L15 H, mI_sD15, mS_sD15, md_R16 H, md_K16 H, md_L16 H, mI_sD16, mS_sD16, md_R17 H, md_K17 H, md_L17 H, mI_sD17, mS_sD17, md_R18 H, md_K18 H, md_L18 H, mI_sD18, mS_sD18, md_R19 H, md_K19 H, md_L19 H, mI_sD19, mS_sD19, md_R20 H, md_K20 H, md_L20 H, mI_sD20, mS_sD20, md_R21 H, md_K21 H, md_L21 H, mI_sD21, mS_sD21, md_R22 H, md_K22 H, md_L22 H, mI_sD22, mS_sD22, md_R23 H, md_K23 H, md_L23 H, mI_sD23, mS_sD23, md_R24 H, md_K24 H, md_L24 H, mI_sD24, mS_sD24, md_R25 H, md_K25 H, md_L25 H, mI_sD25, mS_sD25, mI_sDs1640, mS_sDs1640, mI_sDs1641, mS_sDs1641, mI_sDs1642, mS_sDs1642, mI_sDs1666, mS_sDs1666, mI_sDs1667, mS_sDs1667, vi440, cl440, vi441, cl441, vi442, cl442, vi443, cl443, vi444, cl444, vi445, cl445, vi446, cl446, vi447, cl447, vi448, cl448, vi449, cl449, vi450, cl450, forall_eq, Option.some.injEq, exists_eq_left', true_and, m30, m11, m6, m4, nI_add, p1, p2, p3, p4, p5, p6, p7, p8, p9, p10, p11, p440, vin, cl, nle, nlt, neq, nI_i1, dU_ne, and_true]
  refine ⟨fun _ => trivial, fun h => ⟨fun h2 => ?_, fun _ => trivial⟩⟩
  rcases hv with hv | hv
  · exact absurd hv h
  · exact absurd h2 hv
theorem c_Md_lose_ok (H : mdl M m) {u k : Nat} (hu : D 1666 0 = nI u) (h40 : u ≤ 40) (hk : k < u) : EX eL X_Md_lose 0 [some (.inr (some m)), some (.inl (nI k))] [] (sD M m D) (fun w N => w = some (.inl 1) ∧ N = sD M m (g_take D k)) := by
  refine sg_Md_lose_0 ?_
  simp (disch := omega) only [mKd_sD, mLn_sD, mR_sD, md_K H, md_R1 H, md_K1 H, md_L1 H, mI_sD1, mS_sD1, md_R2 H, md_K2 H, md_L2 H, mI_sD2, mS_sD2, md_R3 H, md_K3 H, md_L3 H, mI_sD3, mS_sD3, md_R4 H, md_K4 H, md_L4 H, mI_sD4, mS_sD4, md_R5 H, md_K5 H, md_L5 H, mI_sD5, mS_sD5, md_R6 H, md_K6 H, md_L6 H, mI_sD6, mS_sD6, md_R7 H, md_K7 H, md_L7 H, mI_sD7, mS_sD7, md_R8 H, md_K8 H, md_L8 H, mI_sD8, mS_sD8, md_R9 H, md_K9 H, md_L9 H, mI_sD9, mS_sD9, md_R10 H, md_K10 H, md_L10 H, mI_sD10, mS_sD10, md_R11 H, md_K11 H, md_L11 H, mI_sD11, mS_sD11, md_R12 H, md_K12 H, md_L12 H, mI_sD12, mS_sD12, md_R13 H, md_K13 H, md_L13 H, mI_sD13, mS_sD13, md_R14 H, md_K14 H, md_L14 H, mI_sD14, mS_sD14, md_R15 H, md_K15 H, md_L15 H, mI_sD15, mS_sD15, md_R16 H, md_K16 H, md_L16 H, mI_sD16, mS_sD16, md_R17 H, md_K17 H, md_L17 H, mI_sD17, mS_sD17, md_R18 H, md_K18 H, md_L18 H, mI_sD18, mS_sD18, md_R19 H, md_K19 H, md_L19 H, mI_sD19, mS_sD19, md_R20 H, md_K20 H, md_L20 H, mI_sD20, mS_sD20, md_R21 H, md_K21 H, md_L21 H, mI_sD21, mS_sD21, md_R22 H, md_K22 H, md_L22 H, mI_sD22, mS_sD22, md_R23 H, md_K23 H, md_L23 H, mI_sD23, mS_sD23, md_R24 H, md_K24 H, md_L24 H, mI_sD24, mS_sD24, md_R25 H, md_K25 H, md_L25 H, mI_sD25, mS_sD25, mI_sDs1640, mS_sDs1640, mI_sDs1641, mS_sDs1641, mI_sDs1642, mS_sDs1642, mI_sDs1666, mS_sDs1666, mI_sDs1667, mS_sDs1667, vi440, cl440, vi441, cl441, vi442, cl442, vi443, cl443, vi444, cl444, vi445, cl445, vi446, cl446, vi447, cl447, vi448, cl448, vi449, cl449, vi450, cl450, forall_eq, Option.some.injEq, exists_eq_left', true_and, m30, m11, m6, m4, nI_add, p1, p2, p3, p4, p5, p6, p7, p8, p9, p10, p11, p440, vin, cl, nle, nlt, neq, nI_i1, dU_ne, hu]
  refine ⟨fun h => absurd h (nI_pos (by omega)), fun _ => ⟨fun _ => ?_, fun h => absurd hk h⟩⟩
  refine EX.mono (c_Md_take H hu h40 hk) fun w N hv => ?_
  obtain ⟨rfl, rfl⟩ := hv
  exact ⟨rfl, rfl⟩
theorem c_Md_deliver_bad (H : mdl M m) {v : Int32} (hv : v < 0 ∨ ¬ v < D 1666 0) : EX eL X_Md_deliver 0 [some (.inr (some m)), some (.inl v), none] [] (sD M m D) (fun w N => w = some (.inl (-1)) ∧ N = sD M m D) := by
  refine sg_Md_deliver_0 ?_
  refine ⟨fun _ => ⟨rfl, rfl⟩, fun h => ⟨md_K H, fun h2 => ?_, fun _ => ⟨rfl, rfl⟩⟩⟩
  rcases hv with hv | hv
  · exact absurd hv h
  · rw [mI_sDs1666] at h2; exact absurd h2 hv
theorem g_take_ne {k j x : Nat} (h1 : ¬ j = 24) (h2 : ¬ j = 1666) : g_take D k j x = D j x := by
  unfold g_take
  rw [dU_ne _ h2, g_shU_ne h1, g_cpU_ne h1]
theorem uOK_take {u k : Nat} (hu : D 1666 0 = nI u) (h40 : u ≤ 40) (hk : k < u) : g_take D k 1666 0 = nI (u - 1) := by
  unfold g_take
  rw [dU_eq, hu]
  exact nI_sub (a := u) (b := 1) (by omega)
set_option maxHeartbeats 1000000 in
theorem c_Md_deliver_ok (H : mdl M m) {u k to fr : Nat} (hu : D 1666 0 = nI u) (h40 : u ≤ 40) (hk : k < u) (hN : D 1640 0 = nI n) (hF : D 1641 0 = nI (n / 2)) (hI : D 1642 0 = nI (6 * n)) (hn : n ≤ 5) (hto : g_take D k 24 442 = nI to) (ht5 : to < 5) (hfr : g_take D k 24 441 = nI fr) (hfr5 : fr < 5) (hii : g_take D k 24 443 = nI i) (hi : i < 30) {c : Nat} (hc : D 16 (30 * to + i) = nI c) (hc3 : c ≤ 3) (hc2 : D 14 (30 * to + i) = 3 → c ≤ 2) :
    EX eL X_Md_deliver 0 [some (.inr (some m)), some (.inl (nI k)), none] [] (sD M m D) (fun w N => w = some (.inl (g_take D k 24 440)) ∧ N = sD M m (g_deliver D n k)) := by
  refine sg_Md_deliver_0 ?_
  refine ⟨fun h => absurd h (nI_pos (by omega)), fun _ => ⟨md_K H, fun _ => ?_, fun h => absurd ?_ h⟩⟩
  · refine EX.mono (c_Md_take H hu h40 hk) fun w N hv => ?_
    obtain ⟨rfl, rfl⟩ := hv
    have hd : g_deliver D n k = if g_take D k 1 to = 0 then g_receive (g_take D k) n (g_take D k 24 440) to fr i else g_take D k := by
      unfold g_deliver g_nat
      dsimp only
      rw [hto, hfr, hii, cl (by omega), cl (by omega), cl (by omega)]
    have eU := uOK_take hu h40 hk
    have eN : g_take D k 1640 0 = nI n := by rw [g_take_ne (by decide) (by decide)]; exact hN
    have eF : g_take D k 1641 0 = nI (n / 2) := by rw [g_take_ne (by decide) (by decide)]; exact hF
    have eI : g_take D k 1642 0 = nI (6 * n) := by rw [g_take_ne (by decide) (by decide)]; exact hI
    have eC : g_take D k 16 (30 * to + i) = nI c := by rw [g_take_ne (by decide) (by decide)]; exact hc
    have eP : g_take D k 14 (30 * to + i) = 3 → c ≤ 2 := by rw [g_take_ne (by decide) (by decide)]; exact hc2
    generalize g_take D k = E at *
    simp (disch := omega) only [mKd_sD, mLn_sD, mR_sD, md_K H, md_R1 H, md_K1 H, md_L1 H, mI_sD1, mS_sD1, md_R2 H, md_K2 H, md_L2 H, mI_sD2, mS_sD2, md_R3 H, md_K3 H, md_L3 H, mI_sD3, mS_sD3, md_R4 H, md_K4 H, md_L4 H, mI_sD4, mS_sD4, md_R5 H, md_K5 H, md_L5 H, mI_sD5, mS_sD5, md_R6 H, md_K6 H, md_L6 H, mI_sD6, mS_sD6, md_R7 H, md_K7 H, md_L7 H, mI_sD7, mS_sD7, md_R8 H, md_K8 H, md_L8 H, mI_sD8, mS_sD8, md_R9 H, md_K9 H, md_L9 H, mI_sD9, mS_sD9, md_R10 H, md_K10 H, md_L10 H, mI_sD10, mS_sD10, md_R11 H, md_K11 H, md_L11 H, mI_sD11, mS_sD11, md_R12 H, md_K12 H, md_L12 H, mI_sD12, mS_sD12, md_R13 H, md_K13 H, md_L13 H, mI_sD13, mS_sD13, md_R14 H, md_K14 H, md_L14 H, mI_sD14, mS_sD14, md_R15 H, md_K15 H, md_L15 H, mI_sD15, mS_sD15, md_R16 H, md_K16 H, md_L16 H, mI_sD16, mS_sD16, md_R17 H, md_K17 H, md_L17 H, mI_sD17, mS_sD17, md_R18 H, md_K18 H, md_L18 H, mI_sD18, mS_sD18, md_R19 H, md_K19 H, md_L19 H, mI_sD19, mS_sD19, md_R20 H, md_K20 H, md_L20 H, mI_sD20, mS_sD20, md_R21 H, md_K21 H, md_L21 H, mI_sD21, mS_sD21, md_R22 H, md_K22 H, md_L22 H, mI_sD22, mS_sD22, md_R23 H, md_K23 H, md_L23 H, mI_sD23, mS_sD23, md_R24 H, md_K24 H, md_L24 H, mI_sD24, mS_sD24, md_R25 H, md_K25 H, md_L25 H, mI_sD25, mS_sD25, mI_sDs1640, mS_sDs1640, mI_sDs1641, mS_sDs1641, mI_sDs1642, mS_sDs1642, mI_sDs1666, mS_sDs1666, mI_sDs1667, mS_sDs1667, vi440, cl440, vi441, cl441, vi442, cl442, vi443, cl443, vi444, cl444, vi445, cl445, vi446, cl446, vi447, cl447, vi448, cl448, vi449, cl449, vi450, cl450, forall_eq, Option.some.injEq, exists_eq_left', true_and, m30, m11, m6, m4, nI_add, p1, p2, p3, p4, p5, p6, p7, p8, p9, p10, p11, p440, vin, cl, nle, nlt, neq, nI_i1, dU_ne, hto, hfr, hii]
    refine ⟨fun h => ?_, fun h => ?_⟩
    · rw [hd, if_neg h]
    · refine EX.mono (c_Md_receive H eN eF eI hn ⟨u - 1, eU, by omega⟩ ht5 hi eC hc3 eP) fun w N hv => ?_
      obtain ⟨rfl, rfl⟩ := hv
      exact ⟨rfl, by rw [hd, if_pos h]⟩
  · rw [mI_sDs1666, hu]
    exact (nlt (by omega) (by omega)).mpr hk
theorem c_Md_waiting (H : mdl M m) : EX eL X_Md_waiting 0 [some (.inr (some m))] [] (sD M m D) (fun w N => w = some (.inl (D 1666 0)) ∧ N = sD M m D) := by
  refine sg_Md_waiting_0 ?_
  simp (disch := omega) only [mKd_sD, mLn_sD, mR_sD, md_K H, md_R1 H, md_K1 H, md_L1 H, mI_sD1, mS_sD1, md_R2 H, md_K2 H, md_L2 H, mI_sD2, mS_sD2, md_R3 H, md_K3 H, md_L3 H, mI_sD3, mS_sD3, md_R4 H, md_K4 H, md_L4 H, mI_sD4, mS_sD4, md_R5 H, md_K5 H, md_L5 H, mI_sD5, mS_sD5, md_R6 H, md_K6 H, md_L6 H, mI_sD6, mS_sD6, md_R7 H, md_K7 H, md_L7 H, mI_sD7, mS_sD7, md_R8 H, md_K8 H, md_L8 H, mI_sD8, mS_sD8, md_R9 H, md_K9 H, md_L9 H, mI_sD9, mS_sD9, md_R10 H, md_K10 H, md_L10 H, mI_sD10, mS_sD10, md_R11 H, md_K11 H, md_L11 H, mI_sD11, mS_sD11, md_R12 H, md_K12 H, md_L12 H, mI_sD12, mS_sD12, md_R13 H, md_K13 H, md_L13 H, mI_sD13, mS_sD13, md_R14 H, md_K14 H, md_L14 H, mI_sD14, mS_sD14, md_R15 H, md_K15 H, md_L15 H, mI_sD15, mS_sD15, md_R16 H, md_K16 H, md_L16 H, mI_sD16, mS_sD16, md_R17 H, md_K17 H, md_L17 H, mI_sD17, mS_sD17, md_R18 H, md_K18 H, md_L18 H, mI_sD18, mS_sD18, md_R19 H, md_K19 H, md_L19 H, mI_sD19, mS_sD19, md_R20 H, md_K20 H, md_L20 H, mI_sD20, mS_sD20, md_R21 H, md_K21 H, md_L21 H, mI_sD21, mS_sD21, md_R22 H, md_K22 H, md_L22 H, mI_sD22, mS_sD22, md_R23 H, md_K23 H, md_L23 H, mI_sD23, mS_sD23, md_R24 H, md_K24 H, md_L24 H, mI_sD24, mS_sD24, md_R25 H, md_K25 H, md_L25 H, mI_sD25, mS_sD25, mI_sDs1640, mS_sDs1640, mI_sDs1641, mS_sDs1641, mI_sDs1642, mS_sDs1642, mI_sDs1666, mS_sDs1666, mI_sDs1667, mS_sDs1667, vi440, cl440, vi441, cl441, vi442, cl442, vi443, cl443, vi444, cl444, vi445, cl445, vi446, cl446, vi447, cl447, vi448, cl448, vi449, cl449, vi450, cl450, forall_eq, Option.some.injEq, exists_eq_left', true_and, m30, m11, m6, m4, nI_add, p1, p2, p3, p4, p5, p6, p7, p8, p9, p10, p11, p440, vin, cl, nle, nlt, neq, nI_i1, dU_ne]
theorem c_Md_lost (H : mdl M m) : EX eL X_Md_lost 0 [some (.inr (some m))] [] (sD M m D) (fun w N => w = some (.inl (D 1667 0)) ∧ N = sD M m D) := by
  refine sg_Md_lost_0 ?_
  simp (disch := omega) only [mKd_sD, mLn_sD, mR_sD, md_K H, md_R1 H, md_K1 H, md_L1 H, mI_sD1, mS_sD1, md_R2 H, md_K2 H, md_L2 H, mI_sD2, mS_sD2, md_R3 H, md_K3 H, md_L3 H, mI_sD3, mS_sD3, md_R4 H, md_K4 H, md_L4 H, mI_sD4, mS_sD4, md_R5 H, md_K5 H, md_L5 H, mI_sD5, mS_sD5, md_R6 H, md_K6 H, md_L6 H, mI_sD6, mS_sD6, md_R7 H, md_K7 H, md_L7 H, mI_sD7, mS_sD7, md_R8 H, md_K8 H, md_L8 H, mI_sD8, mS_sD8, md_R9 H, md_K9 H, md_L9 H, mI_sD9, mS_sD9, md_R10 H, md_K10 H, md_L10 H, mI_sD10, mS_sD10, md_R11 H, md_K11 H, md_L11 H, mI_sD11, mS_sD11, md_R12 H, md_K12 H, md_L12 H, mI_sD12, mS_sD12, md_R13 H, md_K13 H, md_L13 H, mI_sD13, mS_sD13, md_R14 H, md_K14 H, md_L14 H, mI_sD14, mS_sD14, md_R15 H, md_K15 H, md_L15 H, mI_sD15, mS_sD15, md_R16 H, md_K16 H, md_L16 H, mI_sD16, mS_sD16, md_R17 H, md_K17 H, md_L17 H, mI_sD17, mS_sD17, md_R18 H, md_K18 H, md_L18 H, mI_sD18, mS_sD18, md_R19 H, md_K19 H, md_L19 H, mI_sD19, mS_sD19, md_R20 H, md_K20 H, md_L20 H, mI_sD20, mS_sD20, md_R21 H, md_K21 H, md_L21 H, mI_sD21, mS_sD21, md_R22 H, md_K22 H, md_L22 H, mI_sD22, mS_sD22, md_R23 H, md_K23 H, md_L23 H, mI_sD23, mS_sD23, md_R24 H, md_K24 H, md_L24 H, mI_sD24, mS_sD24, md_R25 H, md_K25 H, md_L25 H, mI_sD25, mS_sD25, mI_sDs1640, mS_sDs1640, mI_sDs1641, mS_sDs1641, mI_sDs1642, mS_sDs1642, mI_sDs1666, mS_sDs1666, mI_sDs1667, mS_sDs1667, vi440, cl440, vi441, cl441, vi442, cl442, vi443, cl443, vi444, cl444, vi445, cl445, vi446, cl446, vi447, cl447, vi448, cl448, vi449, cl449, vi450, cl450, forall_eq, Option.some.injEq, exists_eq_left', true_and, m30, m11, m6, m4, nI_add, p1, p2, p3, p4, p5, p6, p7, p8, p9, p10, p11, p440, vin, cl, nle, nlt, neq, nI_i1, dU_ne]
theorem c_Md_message_bad (H : mdl M m) {v : Int32} (hv : v < 0 ∨ ¬ v < D 1666 0) : EX eL X_Md_message 0 [some (.inr (some m)), some (.inl v), none] [] (sD M m D) (fun w N => w = some (.inl (-1)) ∧ N = sD M m D) := by
  refine sg_Md_message_0 ?_
  refine ⟨fun _ => ⟨rfl, rfl⟩, fun h => ⟨md_K H, fun h2 => ?_, fun _ => ⟨rfl, rfl⟩⟩⟩
  rcases hv with hv | hv
  · exact absurd hv h
  · rw [mI_sDs1666] at h2; exact absurd h2 hv
theorem c_Md_message_ok (H : mdl M m) {u k : Nat} (hu : D 1666 0 = nI u) (h40 : u ≤ 40) (hk : k < u) : EX eL X_Md_message 0 [some (.inr (some m)), some (.inl (nI k)), none] [] (sD M m D) (fun w N => w = some (.inl (D 24 (11 * k) + 8 * D 24 (11 * k + 1) + 64 * D 24 (11 * k + 2) + 512 * D 24 (11 * k + 3))) ∧ N = sD M m D) := by
  refine sg_Md_message_0 ?_
  simp (disch := omega) only [mKd_sD, mLn_sD, mR_sD, md_K H, md_R1 H, md_K1 H, md_L1 H, mI_sD1, mS_sD1, md_R2 H, md_K2 H, md_L2 H, mI_sD2, mS_sD2, md_R3 H, md_K3 H, md_L3 H, mI_sD3, mS_sD3, md_R4 H, md_K4 H, md_L4 H, mI_sD4, mS_sD4, md_R5 H, md_K5 H, md_L5 H, mI_sD5, mS_sD5, md_R6 H, md_K6 H, md_L6 H, mI_sD6, mS_sD6, md_R7 H, md_K7 H, md_L7 H, mI_sD7, mS_sD7, md_R8 H, md_K8 H, md_L8 H, mI_sD8, mS_sD8, md_R9 H, md_K9 H, md_L9 H, mI_sD9, mS_sD9, md_R10 H, md_K10 H, md_L10 H, mI_sD10, mS_sD10, md_R11 H, md_K11 H, md_L11 H, mI_sD11, mS_sD11, md_R12 H, md_K12 H, md_L12 H, mI_sD12, mS_sD12, md_R13 H, md_K13 H, md_L13 H, mI_sD13, mS_sD13, md_R14 H, md_K14 H, md_L14 H, mI_sD14, mS_sD14, md_R15 H, md_K15 H, md_L15 H, mI_sD15, mS_sD15, md_R16 H, md_K16 H, md_L16 H, mI_sD16, mS_sD16, md_R17 H, md_K17 H, md_L17 H, mI_sD17, mS_sD17, md_R18 H, md_K18 H, md_L18 H, mI_sD18, mS_sD18, md_R19 H, md_K19 H, md_L19 H, mI_sD19, mS_sD19, md_R20 H, md_K20 H, md_L20 H, mI_sD20, mS_sD20, md_R21 H, md_K21 H, md_L21 H, mI_sD21, mS_sD21, md_R22 H, md_K22 H, md_L22 H, mI_sD22, mS_sD22, md_R23 H, md_K23 H, md_L23 H, mI_sD23, mS_sD23, md_R24 H, md_K24 H, md_L24 H, mI_sD24, mS_sD24, md_R25 H, md_K25 H, md_L25 H, mI_sD25, mS_sD25, mI_sDs1640, mS_sDs1640, mI_sDs1641, mS_sDs1641, mI_sDs1642, mS_sDs1642, mI_sDs1666, mS_sDs1666, mI_sDs1667, mS_sDs1667, vi440, cl440, vi441, cl441, vi442, cl442, vi443, cl443, vi444, cl444, vi445, cl445, vi446, cl446, vi447, cl447, vi448, cl448, vi449, cl449, vi450, cl450, forall_eq, Option.some.injEq, exists_eq_left', true_and, m30, m11, m6, m4, nI_add, p1, p2, p3, p4, p5, p6, p7, p8, p9, p10, p11, p440, vin, cl, nle, nlt, neq, nI_i1, dU_ne, hu]
  exact ⟨fun h => absurd h (nI_pos (by omega)), fun _ => ⟨fun _ => trivial, fun h => absurd hk h⟩⟩
end MC9
