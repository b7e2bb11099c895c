/-! executing, in the reference -/
def g_openU (D : me_D) (r : Nat) : Nat → Int32
  | 0 => 0
  | i + 1 => if D 4 (30 * r + i) = 3 then g_openU D r i ||| (1 <<< (nI i &&& 31)) else g_openU D r i
def g_rc0U (D : me_D) (r : Nat) (o : Int32) : Nat → me_D
  | 0 => D
  | i + 1 => if bt o i = true then dU (g_rc0U D r o i) 25 i ((D 8 (30 * r + i) &&& o) ||| (1 <<< (nI i &&& 31))) else dU (g_rc0U D r o i) 25 i 0
def g_warI (D : me_D) (k : Nat) : Nat → me_D
  | 0 => D
  | i + 1 => if bt (g_warI D k i 25 i) k = true then dU (g_warI D k i) 25 i (g_warI D k i 25 i ||| g_warI D k i 25 k) else g_warI D k i
def g_warU (D : me_D) (n : Nat) : Nat → me_D
  | 0 => D
  | k + 1 => g_warI (g_warU D n k) k (6 * n)
def g_reach (D : me_D) (n r : Nat) : me_D := g_warU (g_rc0U D r (g_openU D r (6 * n)) (6 * n)) n (6 * n)
def g_compU (D : me_D) (i : Nat) : Nat → Int32
  | 0 => 0
  | j + 1 => if bt (D 25 i) j = true ∧ bt (D 25 j) i = true then g_compU D i j ||| (1 <<< (nI j &&& 31)) else g_compU D i j
def g_oldU (D : me_D) (r : Nat) (s : Int32) : Nat → Int32
  | 0 => s
  | j + 1 => if D 4 (30 * r + j) = 4 then g_oldU D r s j ||| (1 <<< (nI j &&& 31)) else g_oldU D r s j
def g_rdyU (D : me_D) (r : Nat) (s o : Int32) : Nat → Nat → Bool
  | 0, _ => decide (¬ s = 0)
  | t + 1, j => if bt s j = true ∧ ¬ D 8 (30 * r + j) &&& (o ^^^ -1) = 0 then false else g_rdyU D r s o t (j + 1)
def g_ready (D : me_D) (n r : Nat) (s : Int32) : Bool := g_rdyU D r s (g_oldU D r s (6 * n)) (6 * n) 0
def g_selU (D : me_D) (n r : Nat) : Nat → Int32 → Int32
  | 0, a => a
  | i + 1, a => g_selU D n r i (if g_ready D n r (g_compU D i (6 * n)) = true then g_compU D i (6 * n) else a)
def g_nxtU (D : me_D) (r : Nat) (s : Int32) : Nat → Option Nat → Option Nat
  | 0, b => b
  | j + 1, b => g_nxtU D r s j (if bt s j = true ∧ (match b with | none => true | some q => decide (¬ D 7 (30 * r + q) < D 7 (30 * r + j))) = true then some j else b)
def g_cellOf (D : me_D) (r a : Nat) : Nat := 4 * r + (D 5 a &&& 3).toNatClampNeg
def g_act (D : me_D) (r i : Nat) : me_D :=
  let a := 30 * r + i
  let E := dU D 12 a (if D 5 a = 8 then 0 else D 2 (g_cellOf D r a))
  let F := if 4 ≤ D 5 a ∧ D 5 a < 8 then dU E 2 (g_cellOf D r a) (D 6 a) else E
  dU (dU (dU F 4 a 4) 11 a (D 3 r)) 3 r (D 3 r + 1)
def g_runU (n r : Nat) : Nat → me_D → Int32 → me_D
  | 0, D, _ => D
  | t + 1, D, s => if s = 0 then D else match g_nxtU D r s (6 * n) none with
    | none => D
    | some i => g_runU n r t (g_act D r i) (s &&& ((1 <<< (nI i &&& 31)) ^^^ -1))
def g_passU (n r : Nat) : Nat → me_D → me_D
  | 0, D => D
  | t + 1, D => let E := g_reach D n r
    let s := g_selU E n r (6 * n) 0
    if s = 0 then E else g_passU n r t (g_runU n r 30 E s)
def g_exec (D : me_D) (n r : Nat) : me_D := g_passU n r 31 D
section MC12
variable {M : me_M} {m : Nat} {D : me_D} {n r i : Nat}
theorem g_rc0U_ne {o : Int32} {j x : Nat} (h : ¬ j = 25) (k : Nat) : g_rc0U D r o k j x = D j x := by
  induction k with
  | zero => rfl
  | succ k ih =>
    rw [g_rc0U]
    split
    · rw [dU_ne _ h, ih]
    · rw [dU_ne _ h, ih]
theorem g_warI_ne {k j x : Nat} (h : ¬ j = 25) (t : Nat) : g_warI D k t j x = D j x := by
  induction t with
  | zero => rfl
  | succ t ih =>
    rw [g_warI]
    split
    · rw [dU_ne _ h, ih]
    · exact ih
theorem g_warU_ne {j x : Nat} (h : ¬ j = 25) (t : Nat) : g_warU D n t j x = D j x := by
  induction t with
  | zero => rfl
  | succ t ih => rw [g_warU, g_warI_ne h, ih]
theorem g_reach_ne {j x : Nat} (h : ¬ j = 25) : g_reach D n r j x = D j x := by
  unfold g_reach
  rw [g_warU_ne h, g_rc0U_ne h]
theorem c_Md_reachable (H : mdl M m) (hI : D 1642 0 = nI (6 * n)) (hn : n ≤ 5) (hr : r < 5) : EX eL X_Md_reachable 0 [some (.inr (some m)), some (.inl (nI r)), none, none, none] [] (sD M m D) (fun w N => w = none ∧ N = sD M m (g_reach D n r)) := by
  refine sg_Md_reachable_0 ?_
  have loop3 : ∀ t k, t + k = 6 * n → EX eL X_Md_reachable 97 [some (.inr (some m)), none, none, some (.inl (nI k)), none] [] (sD M m (g_warU (g_rc0U D r (g_openU D r (6 * n)) (6 * n)) n k)) (fun w N => w = none ∧ N = sD M m (g_reach D n r)) := by
    intro t
    induction t with
    | zero =>
      intro k hk
      have hk : k = 6 * n := by omega
      subst hk
      refine sg_Md_reachable_97 ?_
      simp (disch := omega) only [mKd_sD, mLn_sD, mR_sD, md_K H, md_R1 H, md_K1 H, md_L1 H, mI_sD1, mS_sD1, md_R2 H, md_K2 H, md_L2 H, mI_sD2, mS_sD2, md_R3 H, md_K3 H, md_L3 H, mI_sD3, mS_sD3, md_R4 H, md_K4 H, md_L4 H, mI_sD4, mS_sD4, md_R5 H, md_K5 H, md_L5 H, mI_sD5, mS_sD5, md_R6 H, md_K6 H, md_L6 H, mI_sD6, mS_sD6, md_R7 H, md_K7 H, md_L7 H, mI_sD7, mS_sD7, md_R8 H, md_K8 H, md_L8 H, mI_sD8, mS_sD8, md_R9 H, md_K9 H, md_L9 H, mI_sD9, mS_sD9, md_R10 H, md_K10 H, md_L10 H, mI_sD10, mS_sD10, md_R11 H, md_K11 H, md_L11 H, mI_sD11, mS_sD11, md_R12 H, md_K12 H, md_L12 H, mI_sD12, mS_sD12, md_R13 H, md_K13 H, md_L13 H, mI_sD13, mS_sD13, md_R14 H, md_K14 H, md_L14 H, mI_sD14, mS_sD14, md_R15 H, md_K15 H, md_L15 H, mI_sD15, mS_sD15, md_R16 H, md_K16 H, md_L16 H, mI_sD16, mS_sD16, md_R17 H, md_K17 H, md_L17 H, mI_sD17, mS_sD17, md_R18 H, md_K18 H, md_L18 H, mI_sD18, mS_sD18, md_R19 H, md_K19 H, md_L19 H, mI_sD19, mS_sD19, md_R20 H, md_K20 H, md_L20 H, mI_sD20, mS_sD20, md_R21 H, md_K21 H, md_L21 H, mI_sD21, mS_sD21, md_R22 H, md_K22 H, md_L22 H, mI_sD22, mS_sD22, md_R23 H, md_K23 H, md_L23 H, mI_sD23, mS_sD23, md_R24 H, md_K24 H, md_L24 H, mI_sD24, mS_sD24, md_R25 H, md_K25 H, md_L25 H, mI_sD25, mS_sD25, mI_sDs1640, mS_sDs1640, mI_sDs1641, mS_sDs1641, mI_sDs1642, mS_sDs1642, mI_sDs1666, mS_sDs1666, mI_sDs1667, mS_sDs1667, vi440, cl440, vi441, cl441, vi442, cl442, vi443, cl443, vi444, cl444, vi445, cl445, vi446, cl446, vi447, cl447, vi448, cl448, vi449, cl449, vi450, cl450, forall_eq, Option.some.injEq, exists_eq_left', true_and, m30, m11, m6, m4, nI_add, p1, p2, p3, p4, p5, p6, p7, p8, p9, p10, p11, p440, vin, cl, nle, nlt, neq, nI_i1, dU_ne, g_warU_ne, g_rc0U_ne, hI]
      exact ⟨fun _ => rfl, fun h => absurd (Nat.le_refl _) h⟩
    | succ t ih =>
      intro k hk
      have go := ih (k + 1) (by omega)
      rw [g_warU] at go
      have inner : ∀ t2 i, t2 + i = 6 * n → EX eL X_Md_reachable 108 [some (.inr (some m)), none, none, some (.inl (nI k)), some (.inl (nI i))] [] (sD M m (g_warI (g_warU (g_rc0U D r (g_openU D r (6 * n)) (6 * n)) n k) k i)) (fun w N => w = none ∧ N = sD M m (g_reach D n r)) := by
        intro t2
        induction t2 with
        | zero =>
          intro i hi
          have hi : i = 6 * n := by omega
          subst hi
          refine sg_Md_reachable_108 ?_
          simp (disch := omega) only [mKd_sD, mLn_sD, mR_sD, md_K H, md_R1 H, md_K1 H, md_L1 H, mI_sD1, mS_sD1, md_R2 H, md_K2 H, md_L2 H, mI_sD2, mS_sD2, md_R3 H, md_K3 H, md_L3 H, mI_sD3, mS_sD3, md_R4 H, md_K4 H, md_L4 H, mI_sD4, mS_sD4, md_R5 H, md_K5 H, md_L5 H, mI_sD5, mS_sD5, md_R6 H, md_K6 H, md_L6 H, mI_sD6, mS_sD6, md_R7 H, md_K7 H, md_L7 H, mI_sD7, mS_sD7, md_R8 H, md_K8 H, md_L8 H, mI_sD8, mS_sD8, md_R9 H, md_K9 H, md_L9 H, mI_sD9, mS_sD9, md_R10 H, md_K10 H, md_L10 H, mI_sD10, mS_sD10, md_R11 H, md_K11 H, md_L11 H, mI_sD11, mS_sD11, md_R12 H, md_K12 H, md_L12 H, mI_sD12, mS_sD12, md_R13 H, md_K13 H, md_L13 H, mI_sD13, mS_sD13, md_R14 H, md_K14 H, md_L14 H, mI_sD14, mS_sD14, md_R15 H, md_K15 H, md_L15 H, mI_sD15, mS_sD15, md_R16 H, md_K16 H, md_L16 H, mI_sD16, mS_sD16, md_R17 H, md_K17 H, md_L17 H, mI_sD17, mS_sD17, md_R18 H, md_K18 H, md_L18 H, mI_sD18, mS_sD18, md_R19 H, md_K19 H, md_L19 H, mI_sD19, mS_sD19, md_R20 H, md_K20 H, md_L20 H, mI_sD20, mS_sD20, md_R21 H, md_K21 H, md_L21 H, mI_sD21, mS_sD21, md_R22 H, md_K22 H, md_L22 H, mI_sD22, mS_sD22, md_R23 H, md_K23 H, md_L23 H, mI_sD23, mS_sD23, md_R24 H, md_K24 H, md_L24 H, mI_sD24, mS_sD24, md_R25 H, md_K25 H, md_L25 H, mI_sD25, mS_sD25, mI_sDs1640, mS_sDs1640, mI_sDs1641, mS_sDs1641, mI_sDs1642, mS_sDs1642, mI_sDs1666, mS_sDs1666, mI_sDs1667, mS_sDs1667, vi440, cl440, vi441, cl441, vi442, cl442, vi443, cl443, vi444, cl444, vi445, cl445, vi446, cl446, vi447, cl447, vi448, cl448, vi449, cl449, vi450, cl450, forall_eq, Option.some.injEq, exists_eq_left', true_and, m30, m11, m6, m4, nI_add, p1, p2, p3, p4, p5, p6, p7, p8, p9, p10, p11, p440, vin, cl, nle, nlt, neq, nI_i1, dU_ne, g_warI_ne, g_warU_ne, g_rc0U_ne, hI]
          exact ⟨fun _ => go, fun h => absurd (Nat.le_refl _) h⟩
        | succ t2 ih2 =>
          intro i hi
          have go2 := ih2 (i + 1) (by omega)
          rw [g_warI] at go2
          refine sg_Md_reachable_108 ?_
          simp (disch := omega) only [mKd_sD, mLn_sD, mR_sD, md_K H, md_R1 H, md_K1 H, md_L1 H, mI_sD1, mS_sD1, md_R2 H, md_K2 H, md_L2 H, mI_sD2, mS_sD2, md_R3 H, md_K3 H, md_L3 H, mI_sD3, mS_sD3, md_R4 H, md_K4 H, md_L4 H, mI_sD4, mS_sD4, md_R5 H, md_K5 H, md_L5 H, mI_sD5, mS_sD5, md_R6 H, md_K6 H, md_L6 H, mI_sD6, mS_sD6, md_R7 H, md_K7 H, md_L7 H, mI_sD7, mS_sD7, md_R8 H, md_K8 H, md_L8 H, mI_sD8, mS_sD8, md_R9 H, md_K9 H, md_L9 H, mI_sD9, mS_sD9, md_R10 H, md_K10 H, md_L10 H, mI_sD10, mS_sD10, md_R11 H, md_K11 H, md_L11 H, mI_sD11, mS_sD11, md_R12 H, md_K12 H, md_L12 H, mI_sD12, mS_sD12, md_R13 H, md_K13 H, md_L13 H, mI_sD13, mS_sD13, md_R14 H, md_K14 H, md_L14 H, mI_sD14, mS_sD14, md_R15 H, md_K15 H, md_L15 H, mI_sD15, mS_sD15, md_R16 H, md_K16 H, md_L16 H, mI_sD16, mS_sD16, md_R17 H, md_K17 H, md_L17 H, mI_sD17, mS_sD17, md_R18 H, md_K18 H, md_L18 H, mI_sD18, mS_sD18, md_R19 H, md_K19 H, md_L19 H, mI_sD19, mS_sD19, md_R20 H, md_K20 H, md_L20 H, mI_sD20, mS_sD20, md_R21 H, md_K21 H, md_L21 H, mI_sD21, mS_sD21, md_R22 H, md_K22 H, md_L22 H, mI_sD22, mS_sD22, md_R23 H, md_K23 H, md_L23 H, mI_sD23, mS_sD23, md_R24 H, md_K24 H, md_L24 H, mI_sD24, mS_sD24, md_R25 H, md_K25 H, md_L25 H, mI_sD25, mS_sD25, mI_sDs1640, mS_sDs1640, mI_sDs1641, mS_sDs1641, mI_sDs1642, mS_sDs1642, mI_sDs1666, mS_sDs1666, mI_sDs1667, mS_sDs1667, vi440, cl440, vi441, cl441, vi442, cl442, vi443, cl443, vi444, cl444, vi445, cl445, vi446, cl446, vi447, cl447, vi448, cl448, vi449, cl449, vi450, cl450, forall_eq, Option.some.injEq, exists_eq_left', true_and, m30, m11, m6, m4, nI_add, p1, p2, p3, p4, p5, p6, p7, p8, p9, p10, p11, p440, vin, cl, nle, nlt, neq, nI_i1, dU_ne, g_warI_ne, g_warU_ne, g_rc0U_ne, hI, bt_1]
          refine ⟨fun h => absurd h (by omega), fun _ => ⟨fun h => ?_, fun h => ?_⟩⟩
          · rw [if_neg h] at go2; exact go2
          · rw [if_pos h] at go2; exact go2
      refine sg_Md_reachable_97 ?_
      simp (disch := omega) only [mKd_sD, mLn_sD, mR_sD, md_K H, md_R1 H, md_K1 H, md_L1 H, mI_sD1, mS_sD1, md_R2 H, md_K2 H, md_L2 H, mI_sD2, mS_sD2, md_R3 H, md_K3 H, md_L3 H, mI_sD3, mS_sD3, md_R4 H, md_K4 H, md_L4 H, mI_sD4, mS_sD4, md_R5 H, md_K5 H, md_L5 H, mI_sD5, mS_sD5, md_R6 H, md_K6 H, md_L6 H, mI_sD6, mS_sD6, md_R7 H, md_K7 H, md_L7 H, mI_sD7, mS_sD7, md_R8 H, md_K8 H, md_L8 H, mI_sD8, mS_sD8, md_R9 H, md_K9 H, md_L9 H, mI_sD9, mS_sD9, md_R10 H, md_K10 H, md_L10 H, mI_sD10, mS_sD10, md_R11 H, md_K11 H, md_L11 H, mI_sD11, mS_sD11, md_R12 H, md_K12 H, md_L12 H, mI_sD12, mS_sD12, md_R13 H, md_K13 H, md_L13 H, mI_sD13, mS_sD13, md_R14 H, md_K14 H, md_L14 H, mI_sD14, mS_sD14, md_R15 H, md_K15 H, md_L15 H, mI_sD15, mS_sD15, md_R16 H, md_K16 H, md_L16 H, mI_sD16, mS_sD16, md_R17 H, md_K17 H, md_L17 H, mI_sD17, mS_sD17, md_R18 H, md_K18 H, md_L18 H, mI_sD18, mS_sD18, md_R19 H, md_K19 H, md_L19 H, mI_sD19, mS_sD19, md_R20 H, md_K20 H, md_L20 H, mI_sD20, mS_sD20, md_R21 H, md_K21 H, md_L21 H, mI_sD21, mS_sD21, md_R22 H, md_K22 H, md_L22 H, mI_sD22, mS_sD22, md_R23 H, md_K23 H, md_L23 H, mI_sD23, mS_sD23, md_R24 H, md_K24 H, md_L24 H, mI_sD24, mS_sD24, md_R25 H, md_K25 H, md_L25 H, mI_sD25, mS_sD25, mI_sDs1640, mS_sDs1640, mI_sDs1641, mS_sDs1641, mI_sDs1642, mS_sDs1642, mI_sDs1666, mS_sDs1666, mI_sDs1667, mS_sDs1667, vi440, cl440, vi441, cl441, vi442, cl442, vi443, cl443, vi444, cl444, vi445, cl445, vi446, cl446, vi447, cl447, vi448, cl448, vi449, cl449, vi450, cl450, forall_eq, Option.some.injEq, exists_eq_left', true_and, m30, m11, m6, m4, nI_add, p1, p2, p3, p4, p5, p6, p7, p8, p9, p10, p11, p440, vin, cl, nle, nlt, neq, nI_i1, dU_ne, g_warU_ne, g_rc0U_ne, hI]
      exact ⟨fun h => absurd h (by omega), fun _ => inner (6 * n) 0 (by omega)⟩
  have loop2 : ∀ t i, t + i = 6 * n → EX eL X_Md_reachable 45 [some (.inr (some m)), some (.inl (nI r)), some (.inl (g_openU D r (6 * n))), some (.inl (nI i)), none] [] (sD M m (g_rc0U D r (g_openU D r (6 * n)) i)) (fun w N => w = none ∧ N = sD M m (g_reach D n r)) := by
    intro t
    induction t with
    | zero =>
      intro i hi
      have hi : i = 6 * n := by omega
      subst hi
      refine sg_Md_reachable_45 ?_
      simp (disch := omega) only [mKd_sD, mLn_sD, mR_sD, md_K H, md_R1 H, md_K1 H, md_L1 H, mI_sD1, mS_sD1, md_R2 H, md_K2 H, md_L2 H, mI_sD2, mS_sD2, md_R3 H, md_K3 H, md_L3 H, mI_sD3, mS_sD3, md_R4 H, md_K4 H, md_L4 H, mI_sD4, mS_sD4, md_R5 H, md_K5 H, md_L5 H, mI_sD5, mS_sD5, md_R6 H, md_K6 H, md_L6 H, mI_sD6, mS_sD6, md_R7 H, md_K7 H, md_L7 H, mI_sD7, mS_sD7, md_R8 H, md_K8 H, md_L8 H, mI_sD8, mS_sD8, md_R9 H, md_K9 H, md_L9 H, mI_sD9, mS_sD9, md_R10 H, md_K10 H, md_L10 H, mI_sD10, mS_sD10, md_R11 H, md_K11 H, md_L11 H, mI_sD11, mS_sD11, md_R12 H, md_K12 H, md_L12 H, mI_sD12, mS_sD12, md_R13 H, md_K13 H, md_L13 H, mI_sD13, mS_sD13, md_R14 H, md_K14 H, md_L14 H, mI_sD14, mS_sD14, md_R15 H, md_K15 H, md_L15 H, mI_sD15, mS_sD15, md_R16 H, md_K16 H, md_L16 H, mI_sD16, mS_sD16, md_R17 H, md_K17 H, md_L17 H, mI_sD17, mS_sD17, md_R18 H, md_K18 H, md_L18 H, mI_sD18, mS_sD18, md_R19 H, md_K19 H, md_L19 H, mI_sD19, mS_sD19, md_R20 H, md_K20 H, md_L20 H, mI_sD20, mS_sD20, md_R21 H, md_K21 H, md_L21 H, mI_sD21, mS_sD21, md_R22 H, md_K22 H, md_L22 H, mI_sD22, mS_sD22, md_R23 H, md_K23 H, md_L23 H, mI_sD23, mS_sD23, md_R24 H, md_K24 H, md_L24 H, mI_sD24, mS_sD24, md_R25 H, md_K25 H, md_L25 H, mI_sD25, mS_sD25, mI_sDs1640, mS_sDs1640, mI_sDs1641, mS_sDs1641, mI_sDs1642, mS_sDs1642, mI_sDs1666, mS_sDs1666, mI_sDs1667, mS_sDs1667, vi440, cl440, vi441, cl441, vi442, cl442, vi443, cl443, vi444, cl444, vi445, cl445, vi446, cl446, vi447, cl447, vi448, cl448, vi449, cl449, vi450, cl450, forall_eq, Option.some.injEq, exists_eq_left', true_and, m30, m11, m6, m4, nI_add, p1, p2, p3, p4, p5, p6, p7, p8, p9, p10, p11, p440, vin, cl, nle, nlt, neq, nI_i1, dU_ne, g_rc0U_ne, hI]
      exact ⟨fun _ => loop3 (6 * n) 0 (by omega), fun h => absurd (Nat.le_refl _) h⟩
    | succ t ih =>
      intro i hi
      have go := ih (i + 1) (by omega)
      rw [g_rc0U] at go
      refine sg_Md_reachable_45 ?_
      simp (disch := omega) only [mKd_sD, mLn_sD, mR_sD, md_K H, md_R1 H, md_K1 H, md_L1 H, mI_sD1, mS_sD1, md_R2 H, md_K2 H, md_L2 H, mI_sD2, mS_sD2, md_R3 H, md_K3 H, md_L3 H, mI_sD3, mS_sD3, md_R4 H, md_K4 H, md_L4 H, mI_sD4, mS_sD4, md_R5 H, md_K5 H, md_L5 H, mI_sD5, mS_sD5, md_R6 H, md_K6 H, md_L6 H, mI_sD6, mS_sD6, md_R7 H, md_K7 H, md_L7 H, mI_sD7, mS_sD7, md_R8 H, md_K8 H, md_L8 H, mI_sD8, mS_sD8, md_R9 H, md_K9 H, md_L9 H, mI_sD9, mS_sD9, md_R10 H, md_K10 H, md_L10 H, mI_sD10, mS_sD10, md_R11 H, md_K11 H, md_L11 H, mI_sD11, mS_sD11, md_R12 H, md_K12 H, md_L12 H, mI_sD12, mS_sD12, md_R13 H, md_K13 H, md_L13 H, mI_sD13, mS_sD13, md_R14 H, md_K14 H, md_L14 H, mI_sD14, mS_sD14, md_R15 H, md_K15 H, md_L15 H, mI_sD15, mS_sD15, md_R16 H, md_K16 H, md_L16 H, mI_sD16, mS_sD16, md_R17 H, md_K17 H, md_L17 H, mI_sD17, mS_sD17, md_R18 H, md_K18 H, md_L18 H, mI_sD18, mS_sD18, md_R19 H, md_K19 H, md_L19 H, mI_sD19, mS_sD19, md_R20 H, md_K20 H, md_L20 H, mI_sD20, mS_sD20, md_R21 H, md_K21 H, md_L21 H, mI_sD21, mS_sD21, md_R22 H, md_K22 H, md_L22 H, mI_sD22, mS_sD22, md_R23 H, md_K23 H, md_L23 H, mI_sD23, mS_sD23, md_R24 H, md_K24 H, md_L24 H, mI_sD24, mS_sD24, md_R25 H, md_K25 H, md_L25 H, mI_sD25, mS_sD25, mI_sDs1640, mS_sDs1640, mI_sDs1641, mS_sDs1641, mI_sDs1642, mS_sDs1642, mI_sDs1666, mS_sDs1666, mI_sDs1667, mS_sDs1667, vi440, cl440, vi441, cl441, vi442, cl442, vi443, cl443, vi444, cl444, vi445, cl445, vi446, cl446, vi447, cl447, vi448, cl448, vi449, cl449, vi450, cl450, forall_eq, Option.some.injEq, exists_eq_left', true_and, m30, m11, m6, m4, nI_add, p1, p2, p3, p4, p5, p6, p7, p8, p9, p10, p11, p440, vin, cl, nle, nlt, neq, nI_i1, dU_ne, g_rc0U_ne, hI, bt_1]
      refine ⟨fun h => absurd h (by omega), fun _ => ⟨fun h => ?_, fun h => ?_⟩⟩
      · rw [if_neg h] at go; exact go
      · rw [if_pos h] at go; exact go
  have loop1 : ∀ t i, t + i = 6 * n → EX eL X_Md_reachable 4 [some (.inr (some m)), some (.inl (nI r)), some (.inl (g_openU D r i)), some (.inl (nI i)), none] [] (sD M m D) (fun w N => w = none ∧ N = sD M m (g_reach D n r)) := by
    intro t
    induction t with
    | zero =>
      intro i hi
      have hi : i = 6 * n := by omega
      subst hi
      refine sg_Md_reachable_4 ?_
      simp (disch := omega) only [mKd_sD, mLn_sD, mR_sD, md_K H, md_R1 H, md_K1 H, md_L1 H, mI_sD1, mS_sD1, md_R2 H, md_K2 H, md_L2 H, mI_sD2, mS_sD2, md_R3 H, md_K3 H, md_L3 H, mI_sD3, mS_sD3, md_R4 H, md_K4 H, md_L4 H, mI_sD4, mS_sD4, md_R5 H, md_K5 H, md_L5 H, mI_sD5, mS_sD5, md_R6 H, md_K6 H, md_L6 H, mI_sD6, mS_sD6, md_R7 H, md_K7 H, md_L7 H, mI_sD7, mS_sD7, md_R8 H, md_K8 H, md_L8 H, mI_sD8, mS_sD8, md_R9 H, md_K9 H, md_L9 H, mI_sD9, mS_sD9, md_R10 H, md_K10 H, md_L10 H, mI_sD10, mS_sD10, md_R11 H, md_K11 H, md_L11 H, mI_sD11, mS_sD11, md_R12 H, md_K12 H, md_L12 H, mI_sD12, mS_sD12, md_R13 H, md_K13 H, md_L13 H, mI_sD13, mS_sD13, md_R14 H, md_K14 H, md_L14 H, mI_sD14, mS_sD14, md_R15 H, md_K15 H, md_L15 H, mI_sD15, mS_sD15, md_R16 H, md_K16 H, md_L16 H, mI_sD16, mS_sD16, md_R17 H, md_K17 H, md_L17 H, mI_sD17, mS_sD17, md_R18 H, md_K18 H, md_L18 H, mI_sD18, mS_sD18, md_R19 H, md_K19 H, md_L19 H, mI_sD19, mS_sD19, md_R20 H, md_K20 H, md_L20 H, mI_sD20, mS_sD20, md_R21 H, md_K21 H, md_L21 H, mI_sD21, mS_sD21, md_R22 H, md_K22 H, md_L22 H, mI_sD22, mS_sD22, md_R23 H, md_K23 H, md_L23 H, mI_sD23, mS_sD23, md_R24 H, md_K24 H, md_L24 H, mI_sD24, mS_sD24, md_R25 H, md_K25 H, md_L25 H, mI_sD25, mS_sD25, mI_sDs1640, mS_sDs1640, mI_sDs1641, mS_sDs1641, mI_sDs1642, mS_sDs1642, mI_sDs1666, mS_sDs1666, mI_sDs1667, mS_sDs1667, vi440, cl440, vi441, cl441, vi442, cl442, vi443, cl443, vi444, cl444, vi445, cl445, vi446, cl446, vi447, cl447, vi448, cl448, vi449, cl449, vi450, cl450, forall_eq, Option.some.injEq, exists_eq_left', true_and, m30, m11, m6, m4, nI_add, p1, p2, p3, p4, p5, p6, p7, p8, p9, p10, p11, p440, vin, cl, nle, nlt, neq, nI_i1, dU_ne, hI]
      exact ⟨fun _ => loop2 (6 * n) 0 (by omega), fun h => absurd (Nat.le_refl _) h⟩
    | succ t ih =>
      intro i hi
      have go := ih (i + 1) (by omega)
      rw [g_openU] at go
      refine sg_Md_reachable_4 ?_
      simp (disch := omega) only [mKd_sD, mLn_sD, mR_sD, md_K H, md_R1 H, md_K1 H, md_L1 H, mI_sD1, mS_sD1, md_R2 H, md_K2 H, md_L2 H, mI_sD2, mS_sD2, md_R3 H, md_K3 H, md_L3 H, mI_sD3, mS_sD3, md_R4 H, md_K4 H, md_L4 H, mI_sD4, mS_sD4, md_R5 H, md_K5 H, md_L5 H, mI_sD5, mS_sD5, md_R6 H, md_K6 H, md_L6 H, mI_sD6, mS_sD6, md_R7 H, md_K7 H, md_L7 H, mI_sD7, mS_sD7, md_R8 H, md_K8 H, md_L8 H, mI_sD8, mS_sD8, md_R9 H, md_K9 H, md_L9 H, mI_sD9, mS_sD9, md_R10 H, md_K10 H, md_L10 H, mI_sD10, mS_sD10, md_R11 H, md_K11 H, md_L11 H, mI_sD11, mS_sD11, md_R12 H, md_K12 H, md_L12 H, mI_sD12, mS_sD12, md_R13 H, md_K13 H, md_L13 H, mI_sD13, mS_sD13, md_R14 H, md_K14 H, md_L14 H, mI_sD14, mS_sD14, md_R15 H, md_K15 H, md_L15 H, mI_sD15, mS_sD15, md_R16 H, md_K16 H, md_L16 H, mI_sD16, mS_sD16, md_R17 H, md_K17 H, md_L17 H, mI_sD17, mS_sD17, md_R18 H, md_K18 H, md_L18 H, mI_sD18, mS_sD18, md_R19 H, md_K19 H, md_L19 H, mI_sD19, mS_sD19, md_R20 H, md_K20 H, md_L20 H, mI_sD20, mS_sD20, md_R21 H, md_K21 H, md_L21 H, mI_sD21, mS_sD21, md_R22 H, md_K22 H, md_L22 H, mI_sD22, mS_sD22, md_R23 H, md_K23 H, md_L23 H, mI_sD23, mS_sD23, md_R24 H, md_K24 H, md_L24 H, mI_sD24, mS_sD24, md_R25 H, md_K25 H, md_L25 H, mI_sD25, mS_sD25, mI_sDs1640, mS_sDs1640, mI_sDs1641, mS_sDs1641, mI_sDs1642, mS_sDs1642, mI_sDs1666, mS_sDs1666, mI_sDs1667, mS_sDs1667, vi440, cl440, vi441, cl441, vi442, cl442, vi443, cl443, vi444, cl444, vi445, cl445, vi446, cl446, vi447, cl447, vi448, cl448, vi449, cl449, vi450, cl450, forall_eq, Option.some.injEq, exists_eq_left', true_and, m30, m11, m6, m4, nI_add, p1, p2, p3, p4, p5, p6, p7, p8, p9, p10, p11, p440, vin, cl, nle, nlt, neq, nI_i1, dU_ne, hI]
      refine ⟨fun h => absurd h (by omega), fun _ => ⟨fun h => ?_, fun h => ?_⟩⟩
      · rw [if_neg h] at go; exact go
      · rw [if_pos h] at go; exact go
  exact loop1 (6 * n) 0 (by omega)
theorem c_Md_component (H : mdl M m) (hI : D 1642 0 = nI (6 * n)) (hn : n ≤ 5) (hi : i < 30) : EX eL X_Md_component 0 [some (.inr (some m)), some (.inl (nI i)), none, none] [] (sD M m D) (fun w N => w = some (.inl (g_compU D i (6 * n))) ∧ N = sD M m D) := by
  refine sg_Md_component_0 ?_
  have loop : ∀ t j, t + j = 6 * n → EX eL X_Md_component 4 [some (.inr (some m)), some (.inl (nI i)), some (.inl (g_compU D i j)), some (.inl (nI j))] [] (sD M m D) (fun w N => w = some (.inl (g_compU D i (6 * n))) ∧ N = sD M m D) := by
    intro t
    induction t with
    | zero =>
      intro j hj
      have hj : j = 6 * n := by omega
      subst hj
      refine sg_Md_component_4 ?_
      simp (disch := omega) only [mKd_sD, mLn_sD, mR_sD, md_K H, md_R1 H, md_K1 H, md_L1 H, mI_sD1, mS_sD1, md_R2 H, md_K2 H, md_L2 H, mI_sD2, mS_sD2, md_R3 H, md_K3 H, md_L3 H, mI_sD3, mS_sD3, md_R4 H, md_K4 H, md_L4 H, mI_sD4, mS_sD4, md_R5 H, md_K5 H, md_L5 H, mI_sD5, mS_sD5, md_R6 H, md_K6 H, md_L6 H, mI_sD6, mS_sD6, md_R7 H, md_K7 H, md_L7 H, mI_sD7, mS_sD7, md_R8 H, md_K8 H, md_L8 H, mI_sD8, mS_sD8, md_R9 H, md_K9 H, md_L9 H, mI_sD9, mS_sD9, md_R10 H, md_K10 H, md_L10 H, mI_sD10, mS_sD10, md_R11 H, md_K11 H, md_L11 H, mI_sD11, mS_sD11, md_R12 H, md_K12 H, md_L12 H, mI_sD12, mS_sD12, md_R13 H, md_K13 H, md_L13 H, mI_sD13, mS_sD13, md_R14 H, md_K14 H, md_L14 H, mI_sD14, mS_sD14, md_R15 H, md_K15 H, md_L15 H, mI_sD15, mS_sD15, md_R16 H, md_K16 H, md_L16 H, mI_sD16, mS_sD16, md_R17 H, md_K17 H, md_L17 H, mI_sD17, mS_sD17, md_R18 H, md_K18 H, md_L18 H, mI_sD18, mS_sD18, md_R19 H, md_K19 H, md_L19 H, mI_sD19, mS_sD19, md_R20 H, md_K20 H, md_L20 H, mI_sD20, mS_sD20, md_R21 H, md_K21 H, md_L21 H, mI_sD21, mS_sD21, md_R22 H, md_K22 H, md_L22 H, mI_sD22, mS_sD22, md_R23 H, md_K23 H, md_L23 H, mI_sD23, mS_sD23, md_R24 H, md_K24 H, md_L24 H, mI_sD24, mS_sD24, md_R25 H, md_K25 H, md_L25 H, mI_sD25, mS_sD25, mI_sDs1640, mS_sDs1640, mI_sDs1641, mS_sDs1641, mI_sDs1642, mS_sDs1642, mI_sDs1666, mS_sDs1666, mI_sDs1667, mS_sDs1667, vi440, cl440, vi441, cl441, vi442, cl442, vi443, cl443, vi444, cl444, vi445, cl445, vi446, cl446, vi447, cl447, vi448, cl448, vi449, cl449, vi450, cl450, forall_eq, Option.some.injEq, exists_eq_left', true_and, m30, m11, m6, m4, nI_add, p1, p2, p3, p4, p5, p6, p7, p8, p9, p10, p11, p440, vin, cl, nle, nlt, neq, nI_i1, dU_ne, hI]
      exact ⟨fun _ => trivial, fun h => absurd (Nat.le_refl _) h⟩
    | succ t ih =>
      intro j hj
      have go := ih (j + 1) (by omega)
      rw [g_compU] at go
      refine sg_Md_component_4 ?_
      simp (disch := omega) only [mKd_sD, mLn_sD, mR_sD, md_K H, md_R1 H, md_K1 H, md_L1 H, mI_sD1, mS_sD1, md_R2 H, md_K2 H, md_L2 H, mI_sD2, mS_sD2, md_R3 H, md_K3 H, md_L3 H, mI_sD3, mS_sD3, md_R4 H, md_K4 H, md_L4 H, mI_sD4, mS_sD4, md_R5 H, md_K5 H, md_L5 H, mI_sD5, mS_sD5, md_R6 H, md_K6 H, md_L6 H, mI_sD6, mS_sD6, md_R7 H, md_K7 H, md_L7 H, mI_sD7, mS_sD7, md_R8 H, md_K8 H, md_L8 H, mI_sD8, mS_sD8, md_R9 H, md_K9 H, md_L9 H, mI_sD9, mS_sD9, md_R10 H, md_K10 H, md_L10 H, mI_sD10, mS_sD10, md_R11 H, md_K11 H, md_L11 H, mI_sD11, mS_sD11, md_R12 H, md_K12 H, md_L12 H, mI_sD12, mS_sD12, md_R13 H, md_K13 H, md_L13 H, mI_sD13, mS_sD13, md_R14 H, md_K14 H, md_L14 H, mI_sD14, mS_sD14, md_R15 H, md_K15 H, md_L15 H, mI_sD15, mS_sD15, md_R16 H, md_K16 H, md_L16 H, mI_sD16, mS_sD16, md_R17 H, md_K17 H, md_L17 H, mI_sD17, mS_sD17, md_R18 H, md_K18 H, md_L18 H, mI_sD18, mS_sD18, md_R19 H, md_K19 H, md_L19 H, mI_sD19, mS_sD19, md_R20 H, md_K20 H, md_L20 H, mI_sD20, mS_sD20, md_R21 H, md_K21 H, md_L21 H, mI_sD21, mS_sD21, md_R22 H, md_K22 H, md_L22 H, mI_sD22, mS_sD22, md_R23 H, md_K23 H, md_L23 H, mI_sD23, mS_sD23, md_R24 H, md_K24 H, md_L24 H, mI_sD24, mS_sD24, md_R25 H, md_K25 H, md_L25 H, mI_sD25, mS_sD25, mI_sDs1640, mS_sDs1640, mI_sDs1641, mS_sDs1641, mI_sDs1642, mS_sDs1642, mI_sDs1666, mS_sDs1666, mI_sDs1667, mS_sDs1667, vi440, cl440, vi441, cl441, vi442, cl442, vi443, cl443, vi444, cl444, vi445, cl445, vi446, cl446, vi447, cl447, vi448, cl448, vi449, cl449, vi450, cl450, forall_eq, Option.some.injEq, exists_eq_left', true_and, m30, m11, m6, m4, nI_add, p1, p2, p3, p4, p5, p6, p7, p8, p9, p10, p11, p440, vin, cl, nle, nlt, neq, nI_i1, dU_ne, hI, bt_1]
      refine ⟨fun h => absurd h (by omega), fun _ => ⟨fun h => ?_, fun h => ⟨fun h2 => ?_, fun h2 => ?_⟩⟩⟩
      · rw [if_neg (fun z => h z.1)] at go; exact go
      · rw [if_neg (fun z => h2 z.2)] at go; exact go
      · rw [if_pos ⟨h, h2⟩] at go; exact go
  exact loop (6 * n) 0 (by omega)
theorem c_Md_ready (H : mdl M m) (hI : D 1642 0 = nI (6 * n)) (hn : n ≤ 5) (hr : r < 5) {s : Int32} : EX eL X_Md_ready 0 [some (.inr (some m)), some (.inl (nI r)), some (.inl s), none, none] [] (sD M m D) (fun w N => w = some (.inl (b01 (g_ready D n r s))) ∧ N = sD M m D) := by
  refine sg_Md_ready_0 ?_
  have loop2 : ∀ t j, t + j = 6 * n → g_ready D n r s = g_rdyU D r s (g_oldU D r s (6 * n)) t j → EX eL X_Md_ready 50 [some (.inr (some m)), some (.inl (nI r)), some (.inl s), some (.inl (g_oldU D r s (6 * n))), some (.inl (nI j))] [] (sD M m D) (fun w N => w = some (.inl (b01 (g_ready D n r s))) ∧ N = sD M m D) := by
    intro t
    induction t with
    | zero =>
      intro j hj hg
      have hj : j = 6 * n := by omega
      subst hj
      refine sg_Md_ready_50 ?_
      simp (disch := omega) only [mKd_sD, mLn_sD, mR_sD, md_K H, md_R1 H, md_K1 H, md_L1 H, mI_sD1, mS_sD1, md_R2 H, md_K2 H, md_L2 H, mI_sD2, mS_sD2, md_R3 H, md_K3 H, md_L3 H, mI_sD3, mS_sD3, md_R4 H, md_K4 H, md_L4 H, mI_sD4, mS_sD4, md_R5 H, md_K5 H, md_L5 H, mI_sD5, mS_sD5, md_R6 H, md_K6 H, md_L6 H, mI_sD6, mS_sD6, md_R7 H, md_K7 H, md_L7 H, mI_sD7, mS_sD7, md_R8 H, md_K8 H, md_L8 H, mI_sD8, mS_sD8, md_R9 H, md_K9 H, md_L9 H, mI_sD9, mS_sD9, md_R10 H, md_K10 H, md_L10 H, mI_sD10, mS_sD10, md_R11 H, md_K11 H, md_L11 H, mI_sD11, mS_sD11, md_R12 H, md_K12 H, md_L12 H, mI_sD12, mS_sD12, md_R13 H, md_K13 H, md_L13 H, mI_sD13, mS_sD13, md_R14 H, md_K14 H, md_L14 H, mI_sD14, mS_sD14, md_R15 H, md_K15 H, md_L15 H, mI_sD15, mS_sD15, md_R16 H, md_K16 H, md_L16 H, mI_sD16, mS_sD16, md_R17 H, md_K17 H, md_L17 H, mI_sD17, mS_sD17, md_R18 H, md_K18 H, md_L18 H, mI_sD18, mS_sD18, md_R19 H, md_K19 H, md_L19 H, mI_sD19, mS_sD19, md_R20 H, md_K20 H, md_L20 H, mI_sD20, mS_sD20, md_R21 H, md_K21 H, md_L21 H, mI_sD21, mS_sD21, md_R22 H, md_K22 H, md_L22 H, mI_sD22, mS_sD22, md_R23 H, md_K23 H, md_L23 H, mI_sD23, mS_sD23, md_R24 H, md_K24 H, md_L24 H, mI_sD24, mS_sD24, md_R25 H, md_K25 H, md_L25 H, mI_sD25, mS_sD25, mI_sDs1640, mS_sDs1640, mI_sDs1641, mS_sDs1641, mI_sDs1642, mS_sDs1642, mI_sDs1666, mS_sDs1666, mI_sDs1667, mS_sDs1667, vi440, cl440, vi441, cl441, vi442, cl442, vi443, cl443, vi444, cl444, vi445, cl445, vi446, cl446, vi447, cl447, vi448, cl448, vi449, cl449, vi450, cl450, forall_eq, Option.some.injEq, exists_eq_left', true_and, m30, m11, m6, m4, nI_add, p1, p2, p3, p4, p5, p6, p7, p8, p9, p10, p11, p440, vin, cl, nle, nlt, neq, nI_i1, dU_ne, hI, and_true]
      refine ⟨fun _ => ⟨fun h => ?_, fun h => ?_⟩, fun h => absurd (Nat.le_refl _) h⟩
      · rw [hg, g_rdyU, decide_eq_false (fun z => z h)]; rfl
      · rw [hg, g_rdyU, decide_eq_true h]; rfl
    | succ t ih =>
      intro j hj hg
      conv at hg => rhs; rw [g_rdyU]
      refine sg_Md_ready_50 ?_
      simp (disch := omega) only [mKd_sD, mLn_sD, mR_sD, md_K H, md_R1 H, md_K1 H, md_L1 H, mI_sD1, mS_sD1, md_R2 H, md_K2 H, md_L2 H, mI_sD2, mS_sD2, md_R3 H, md_K3 H, md_L3 H, mI_sD3, mS_sD3, md_R4 H, md_K4 H, md_L4 H, mI_sD4, mS_sD4, md_R5 H, md_K5 H, md_L5 H, mI_sD5, mS_sD5, md_R6 H, md_K6 H, md_L6 H, mI_sD6, mS_sD6, md_R7 H, md_K7 H, md_L7 H, mI_sD7, mS_sD7, md_R8 H, md_K8 H, md_L8 H, mI_sD8, mS_sD8, md_R9 H, md_K9 H, md_L9 H, mI_sD9, mS_sD9, md_R10 H, md_K10 H, md_L10 H, mI_sD10, mS_sD10, md_R11 H, md_K11 H, md_L11 H, mI_sD11, mS_sD11, md_R12 H, md_K12 H, md_L12 H, mI_sD12, mS_sD12, md_R13 H, md_K13 H, md_L13 H, mI_sD13, mS_sD13, md_R14 H, md_K14 H, md_L14 H, mI_sD14, mS_sD14, md_R15 H, md_K15 H, md_L15 H, mI_sD15, mS_sD15, md_R16 H, md_K16 H, md_L16 H, mI_sD16, mS_sD16, md_R17 H, md_K17 H, md_L17 H, mI_sD17, mS_sD17, md_R18 H, md_K18 H, md_L18 H, mI_sD18, mS_sD18, md_R19 H, md_K19 H, md_L19 H, mI_sD19, mS_sD19, md_R20 H, md_K20 H, md_L20 H, mI_sD20, mS_sD20, md_R21 H, md_K21 H, md_L21 H, mI_sD21, mS_sD21, md_R22 H, md_K22 H, md_L22 H, mI_sD22, mS_sD22, md_R23 H, md_K23 H, md_L23 H, mI_sD23, mS_sD23, md_R24 H, md_K24 H, md_L24 H, mI_sD24, mS_sD24, md_R25 H, md_K25 H, md_L25 H, mI_sD25, mS_sD25, mI_sDs1640, mS_sDs1640, mI_sDs1641, mS_sDs1641, mI_sDs1642, mS_sDs1642, mI_sDs1666, mS_sDs1666, mI_sDs1667, mS_sDs1667, vi440, cl440, vi441, cl441, vi442, cl442, vi443, cl443, vi444, cl444, vi445, cl445, vi446, cl446, vi447, cl447, vi448, cl448, vi449, cl449, vi450, cl450, forall_eq, Option.some.injEq, exists_eq_left', true_and, m30, m11, m6, m4, nI_add, p1, p2, p3, p4, p5, p6, p7, p8, p9, p10, p11, p440, vin, cl, nle, nlt, neq, nI_i1, dU_ne, hI, and_true, bt_1]
      refine ⟨fun h => absurd h (by omega), fun _ => ⟨fun h => ?_, fun h => ⟨fun h2 => ?_, fun h2 => ?_⟩⟩⟩
      · rw [if_neg (fun z => h z.1)] at hg; exact ih (j + 1) (by omega) hg
      · rw [if_neg (fun z => z.2 h2)] at hg; exact ih (j + 1) (by omega) hg
      · rw [if_pos ⟨h, h2⟩] at hg; rw [hg]; rfl
  have loop1 : ∀ t j, t + j = 6 * n → EX eL X_Md_ready 5 [some (.inr (some m)), some (.inl (nI r)), some (.inl s), some (.inl (g_oldU D r s j)), some (.inl (nI j))] [] (sD M m D) (fun w N => w = some (.inl (b01 (g_ready D n r s))) ∧ N = sD M m D) := by
    intro t
    induction t with
    | zero =>
      intro j hj
      have hj : j = 6 * n := by omega
      subst hj
      refine sg_Md_ready_5 ?_
      simp (disch := omega) only [mKd_sD, mLn_sD, mR_sD, md_K H, md_R1 H, md_K1 H, md_L1 H, mI_sD1, mS_sD1, md_R2 H, md_K2 H, md_L2 H, mI_sD2, mS_sD2, md_R3 H, md_K3 H, md_L3 H, mI_sD3, mS_sD3, md_R4 H, md_K4 H, md_L4 H, mI_sD4, mS_sD4, md_R5 H, md_K5 H, md_L5 H, mI_sD5, mS_sD5, md_R6 H, md_K6 H, md_L6 H, mI_sD6, mS_sD6, md_R7 H, md_K7 H, md_L7 H, mI_sD7, mS_sD7, md_R8 H, md_K8 H, md_L8 H, mI_sD8, mS_sD8, md_R9 H, md_K9 H, md_L9 H, mI_sD9, mS_sD9, md_R10 H, md_K10 H, md_L10 H, mI_sD10, mS_sD10, md_R11 H, md_K11 H, md_L11 H, mI_sD11, mS_sD11, md_R12 H, md_K12 H, md_L12 H, mI_sD12, mS_sD12, md_R13 H, md_K13 H, md_L13 H, mI_sD13, mS_sD13, md_R14 H, md_K14 H, md_L14 H, mI_sD14, mS_sD14, md_R15 H, md_K15 H, md_L15 H, mI_sD15, mS_sD15, md_R16 H, md_K16 H, md_L16 H, mI_sD16, mS_sD16, md_R17 H, md_K17 H, md_L17 H, mI_sD17, mS_sD17, md_R18 H, md_K18 H, md_L18 H, mI_sD18, mS_sD18, md_R19 H, md_K19 H, md_L19 H, mI_sD19, mS_sD19, md_R20 H, md_K20 H, md_L20 H, mI_sD20, mS_sD20, md_R21 H, md_K21 H, md_L21 H, mI_sD21, mS_sD21, md_R22 H, md_K22 H, md_L22 H, mI_sD22, mS_sD22, md_R23 H, md_K23 H, md_L23 H, mI_sD23, mS_sD23, md_R24 H, md_K24 H, md_L24 H, mI_sD24, mS_sD24, md_R25 H, md_K25 H, md_L25 H, mI_sD25, mS_sD25, mI_sDs1640, mS_sDs1640, mI_sDs1641, mS_sDs1641, mI_sDs1642, mS_sDs1642, mI_sDs1666, mS_sDs1666, mI_sDs1667, mS_sDs1667, vi440, cl440, vi441, cl441, vi442, cl442, vi443, cl443, vi444, cl444, vi445, cl445, vi446, cl446, vi447, cl447, vi448, cl448, vi449, cl449, vi450, cl450, forall_eq, Option.some.injEq, exists_eq_left', true_and, m30, m11, m6, m4, nI_add, p1, p2, p3, p4, p5, p6, p7, p8, p9, p10, p11, p440, vin, cl, nle, nlt, neq, nI_i1, dU_ne, hI]
      exact ⟨fun _ => loop2 (6 * n) 0 (by omega) rfl, fun h => absurd (Nat.le_refl _) h⟩
    | succ t ih =>
      intro j hj
      have go := ih (j + 1) (by omega)
      rw [g_oldU] at go
      refine sg_Md_ready_5 ?_
      simp (disch := omega) only [mKd_sD, mLn_sD, mR_sD, md_K H, md_R1 H, md_K1 H, md_L1 H, mI_sD1, mS_sD1, md_R2 H, md_K2 H, md_L2 H, mI_sD2, mS_sD2, md_R3 H, md_K3 H, md_L3 H, mI_sD3, mS_sD3, md_R4 H, md_K4 H, md_L4 H, mI_sD4, mS_sD4, md_R5 H, md_K5 H, md_L5 H, mI_sD5, mS_sD5, md_R6 H, md_K6 H, md_L6 H, mI_sD6, mS_sD6, md_R7 H, md_K7 H, md_L7 H, mI_sD7, mS_sD7, md_R8 H, md_K8 H, md_L8 H, mI_sD8, mS_sD8, md_R9 H, md_K9 H, md_L9 H, mI_sD9, mS_sD9, md_R10 H, md_K10 H, md_L10 H, mI_sD10, mS_sD10, md_R11 H, md_K11 H, md_L11 H, mI_sD11, mS_sD11, md_R12 H, md_K12 H, md_L12 H, mI_sD12, mS_sD12, md_R13 H, md_K13 H, md_L13 H, mI_sD13, mS_sD13, md_R14 H, md_K14 H, md_L14 H, mI_sD14, mS_sD14, md_R15 H, md_K15 H, md_L15 H, mI_sD15, mS_sD15, md_R16 H, md_K16 H, md_L16 H, mI_sD16, mS_sD16, md_R17 H, md_K17 H, md_L17 H, mI_sD17, mS_sD17, md_R18 H, md_K18 H, md_L18 H, mI_sD18, mS_sD18, md_R19 H, md_K19 H, md_L19 H, mI_sD19, mS_sD19, md_R20 H, md_K20 H, md_L20 H, mI_sD20, mS_sD20, md_R21 H, md_K21 H, md_L21 H, mI_sD21, mS_sD21, md_R22 H, md_K22 H, md_L22 H, mI_sD22, mS_sD22, md_R23 H, md_K23 H, md_L23 H, mI_sD23, mS_sD23, md_R24 H, md_K24 H, md_L24 H, mI_sD24, mS_sD24, md_R25 H, md_K25 H, md_L25 H, mI_sD25, mS_sD25, mI_sDs1640, mS_sDs1640, mI_sDs1641, mS_sDs1641, mI_sDs1642, mS_sDs1642, mI_sDs1666, mS_sDs1666, mI_sDs1667, mS_sDs1667, vi440, cl440, vi441, cl441, vi442, cl442, vi443, cl443, vi444, cl444, vi445, cl445, vi446, cl446, vi447, cl447, vi448, cl448, vi449, cl449, vi450, cl450, forall_eq, Option.some.injEq, exists_eq_left', true_and, m30, m11, m6, m4, nI_add, p1, p2, p3, p4, p5, p6, p7, p8, p9, p10, p11, p440, vin, cl, nle, nlt, neq, nI_i1, dU_ne, hI]
      refine ⟨fun h => absurd h (by omega), fun _ => ⟨fun h => ?_, fun h => ?_⟩⟩
      · rw [if_neg h] at go; exact go
      · rw [if_pos h] at go; exact go
  exact loop1 (6 * n) 0 (by omega)
end MC12
