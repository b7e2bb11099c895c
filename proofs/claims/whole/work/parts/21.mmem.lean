/-! the reference's cells: its object at m, its arrays behind it; sD M m D: M with D in them -/
def kdM (j : Nat) : Nat := if j = 1 ∨ j = 13 then 101 else 100
def sD (M : me_M) (m : Nat) (D : me_D) : me_M := (M.1, M.2.1, fun k q i => if m < q ∧ q ≤ m + 25 ∧ k = kdM (q - m) then D (q - m) i else if q = m ∧ 1640 ≤ k ∧ k < 1670 ∧ i = 0 then D k 0 else M.2.2.1 k q i, M.2.2.2)
theorem mKd_sD (M : me_M) (m : Nat) (D : me_D) : mKd (sD M m D) = mKd M := rfl
theorem mLn_sD (M : me_M) (m : Nat) (D : me_D) : mLn (sD M m D) = mLn M := rfl
theorem mR_sD (M : me_M) (m : Nat) (D : me_D) : mR (sD M m D) = mR M := rfl
theorem mSz_sD (M : me_M) (m : Nat) (D : me_D) : mSz (sD M m D) = mSz M := rfl
theorem mSl_sD (M : me_M) (m : Nat) (D : me_D) : mSl (sD M m D) = mSl M := rfl
theorem mI_sDa (M : me_M) (m : Nat) (D : me_D) (j k i : Nat) (h1 : 1 ≤ j) (h2 : j ≤ 25) (hk : k = kdM j) : mI (sD M m D) k (m + j) i = D j i := by
  have e : m + j - m = j := by omega
  show (if m < m + j ∧ m + j ≤ m + 25 ∧ k = kdM (m + j - m) then D (m + j - m) i else _) = _
  rw [if_pos ⟨by omega, by omega, by rw [e]; exact hk⟩, e]
theorem mI_sDs (M : me_M) (m : Nat) (D : me_D) (k : Nat) (h1 : 1640 ≤ k) (h2 : k < 1670) : mI (sD M m D) k m 0 = D k 0 := by
  show (if m < m ∧ m ≤ m + 25 ∧ k = kdM (m - m) then D (m - m) 0 else if m = m ∧ 1640 ≤ k ∧ k < 1670 ∧ 0 = 0 then D k 0 else _) = _
  rw [if_neg (by omega), if_pos ⟨rfl, h1, h2, rfl⟩]
theorem mI_sD_out (M : me_M) (m : Nat) (D : me_D) (k q i : Nat) (h : q < m ∨ m + 25 < q ∨ (k < 1640 ∧ ¬ k = 100 ∧ ¬ k = 101)) : mI (sD M m D) k q i = mI M k q i := by
  have hk : ∀ j, kdM j = 100 ∨ kdM j = 101 := fun j => by unfold kdM; split <;> simp
  show (if m < q ∧ q ≤ m + 25 ∧ k = kdM (q - m) then _ else if q = m ∧ 1640 ≤ k ∧ k < 1670 ∧ i = 0 then _ else _) = _
  have := hk (q - m)
  rw [if_neg (by omega), if_neg (by omega)]
  rfl
theorem mS_sDa (M : me_M) (m : Nat) (D : me_D) (j k i : Nat) (v : Int32) (h1 : 1 ≤ j) (h2 : j ≤ 25) (hk : k = kdM j) : mSetI (sD M m D) k (m + j) i v = sD M m (dU D j i v) := by
  have hkd : ∀ j, kdM j = 100 ∨ kdM j = 101 := fun j => by unfold kdM; split <;> simp
  unfold mSetI sD
  refine Prod.ext rfl (Prod.ext rfl (Prod.ext ?_ rfl))
  funext k' q' i'
  dsimp only [dU]
  by_cases hq : q' = m + j
  · subst hq
    have e : m + j - m = j := by omega
    rw [e]
    by_cases hk' : k' = k
    · subst hk'
      by_cases hi : i' = i
      · subst hi; rw [if_pos ⟨rfl, rfl, rfl⟩, if_pos ⟨by omega, by omega, hk⟩, if_pos ⟨rfl, rfl⟩]
      · rw [if_neg (fun z => hi z.2.2), if_pos ⟨by omega, by omega, hk⟩, if_pos ⟨by omega, by omega, hk⟩, if_neg (fun z => hi z.2)]
    · have hk2 : ¬ k' = kdM j := fun z => hk' (by rw [z, hk])
      have hz : ¬ (m + j = m ∧ 1640 ≤ k' ∧ k' < 1670 ∧ i' = 0) := by omega
      have hy : ¬ (m < m + j ∧ m + j ≤ m + 25 ∧ k' = kdM j) := fun z => hk2 z.2.2
      have hx : ¬ (k' = k ∧ m + j = m + j ∧ i' = i) := fun z => hk' z.1
      rw [if_neg hx]
      simp only [if_neg hy, if_neg hz]
  · rw [if_neg (fun z => hq z.2.1)]
    by_cases hz : m < q' ∧ q' ≤ m + 25 ∧ k' = kdM (q' - m)
    · rw [if_pos hz, if_pos hz, if_neg (fun z => hq (by omega))]
    · rw [if_neg hz, if_neg hz]
      by_cases hy : q' = m ∧ 1640 ≤ k' ∧ k' < 1670 ∧ i' = 0
      · rw [if_pos hy, if_pos hy, if_neg (fun z => by omega)]
      · rw [if_neg hy, if_neg hy]
theorem mS_sDs (M : me_M) (m : Nat) (D : me_D) (k : Nat) (v : Int32) (h1 : 1640 ≤ k) (h2 : k < 1670) : mSetI (sD M m D) k m 0 v = sD M m (dU D k 0 v) := by
  have hkd : ∀ j, kdM j = 100 ∨ kdM j = 101 := fun j => by unfold kdM; split <;> simp
  unfold mSetI sD
  refine Prod.ext rfl (Prod.ext rfl (Prod.ext ?_ rfl))
  funext k' q' i'
  dsimp only [dU]
  have h9 := hkd (q' - m)
  by_cases hz : m < q' ∧ q' ≤ m + 25 ∧ k' = kdM (q' - m)
  · rw [if_neg (fun z => by omega), if_pos hz, if_pos hz, if_neg (fun z => by omega)]
  · rw [if_neg hz, if_neg hz]
    by_cases hy : q' = m ∧ 1640 ≤ k' ∧ k' < 1670 ∧ i' = 0
    · rw [if_pos hy, if_pos hy]
      by_cases hk : k' = k
      · rw [if_pos ⟨hk, hy.1, hy.2.2.2⟩, if_pos ⟨hk, rfl⟩]
      · rw [if_neg (fun z => hk z.1), if_neg (fun z => hk z.1)]
    · rw [if_neg hy, if_neg hy, if_neg (fun z => hy (by omega))]
/-- D's own cells hold D -/
theorem sD_sD (M : me_M) (m : Nat) (D E : me_D) : sD (sD M m D) m E = sD M m E := by
  unfold sD
  refine Prod.ext rfl (Prod.ext rfl (Prod.ext ?_ rfl))
  funext k' q' i'
  dsimp only
  by_cases hz : m < q' ∧ q' ≤ m + 25 ∧ k' = kdM (q' - m)
  · rw [if_pos hz, if_pos hz]
  · rw [if_neg hz, if_neg hz, if_neg hz]
    by_cases hy : q' = m ∧ 1640 ≤ k' ∧ k' < 1670 ∧ i' = 0
    · rw [if_pos hy, if_pos hy]
    · rw [if_neg hy, if_neg hy, if_neg hy]
/-- the reference's object and arrays stand at m -/
def mdl (M : me_M) (m : Nat) : Prop := mKd M m = 11 ∧ (mR M 1643 m 0 = some (m + 1) ∧ mKd M (m + 1) = 101 ∧ mLn M (m + 1) = 5) ∧ (mR M 1644 m 0 = some (m + 2) ∧ mKd M (m + 2) = 100 ∧ mLn M (m + 2) = 20) ∧ (mR M 1645 m 0 = some (m + 3) ∧ mKd M (m + 3) = 100 ∧ mLn M (m + 3) = 5) ∧ (mR M 1646 m 0 = some (m + 4) ∧ mKd M (m + 4) = 100 ∧ mLn M (m + 4) = 150) ∧ (mR M 1647 m 0 = some (m + 5) ∧ mKd M (m + 5) = 100 ∧ mLn M (m + 5) = 150) ∧ (mR M 1648 m 0 = some (m + 6) ∧ mKd M (m + 6) = 100 ∧ mLn M (m + 6) = 150) ∧ (mR M 1649 m 0 = some (m + 7) ∧ mKd M (m + 7) = 100 ∧ mLn M (m + 7) = 150) ∧ (mR M 1650 m 0 = some (m + 8) ∧ mKd M (m + 8) = 100 ∧ mLn M (m + 8) = 150) ∧ (mR M 1651 m 0 = some (m + 9) ∧ mKd M (m + 9) = 100 ∧ mLn M (m + 9) = 150) ∧ (mR M 1652 m 0 = some (m + 10) ∧ mKd M (m + 10) = 100 ∧ mLn M (m + 10) = 150) ∧ (mR M 1653 m 0 = some (m + 11) ∧ mKd M (m + 11) = 100 ∧ mLn M (m + 11) = 150) ∧ (mR M 1654 m 0 = some (m + 12) ∧ mKd M (m + 12) = 100 ∧ mLn M (m + 12) = 150) ∧ (mR M 1655 m 0 = some (m + 13) ∧ mKd M (m + 13) = 101 ∧ mLn M (m + 13) = 150) ∧ (mR M 1656 m 0 = some (m + 14) ∧ mKd M (m + 14) = 100 ∧ mLn M (m + 14) = 150) ∧ (mR M 1657 m 0 = some (m + 15) ∧ mKd M (m + 15) = 100 ∧ mLn M (m + 15) = 150) ∧ (mR M 1658 m 0 = some (m + 16) ∧ mKd M (m + 16) = 100 ∧ mLn M (m + 16) = 150) ∧ (mR M 1659 m 0 = some (m + 17) ∧ mKd M (m + 17) = 100 ∧ mLn M (m + 17) = 600) ∧ (mR M 1660 m 0 = some (m + 18) ∧ mKd M (m + 18) = 100 ∧ mLn M (m + 18) = 600) ∧ (mR M 1661 m 0 = some (m + 19) ∧ mKd M (m + 19) = 100 ∧ mLn M (m + 19) = 600) ∧ (mR M 1662 m 0 = some (m + 20) ∧ mKd M (m + 20) = 100 ∧ mLn M (m + 20) = 600) ∧ (mR M 1663 m 0 = some (m + 21) ∧ mKd M (m + 21) = 100 ∧ mLn M (m + 21) = 600) ∧ (mR M 1664 m 0 = some (m + 22) ∧ mKd M (m + 22) = 100 ∧ mLn M (m + 22) = 600) ∧ (mR M 1665 m 0 = some (m + 23) ∧ mKd M (m + 23) = 100 ∧ mLn M (m + 23) = 600) ∧ (mR M 1668 m 0 = some (m + 24) ∧ mKd M (m + 24) = 100 ∧ mLn M (m + 24) = 451) ∧ (mR M 1669 m 0 = some (m + 25) ∧ mKd M (m + 25) = 100 ∧ mLn M (m + 25) = 30)
section MDL
variable {M : me_M} {m : Nat}
theorem md_K (H : mdl M m) : mKd M m = 11 := H.1
theorem md_R1 (H : mdl M m) : mR M 1643 m 0 = some (m + 1) := H.2.1.1
theorem md_K1 (H : mdl M m) : mKd M (m + 1) = 101 := H.2.1.2.1
theorem md_L1 (H : mdl M m) : mLn M (m + 1) = 5 := H.2.1.2.2
theorem md_R2 (H : mdl M m) : mR M 1644 m 0 = some (m + 2) := H.2.2.1.1
theorem md_K2 (H : mdl M m) : mKd M (m + 2) = 100 := H.2.2.1.2.1
theorem md_L2 (H : mdl M m) : mLn M (m + 2) = 20 := H.2.2.1.2.2
theorem md_R3 (H : mdl M m) : mR M 1645 m 0 = some (m + 3) := H.2.2.2.1.1
theorem md_K3 (H : mdl M m) : mKd M (m + 3) = 100 := H.2.2.2.1.2.1
theorem md_L3 (H : mdl M m) : mLn M (m + 3) = 5 := H.2.2.2.1.2.2
theorem md_R4 (H : mdl M m) : mR M 1646 m 0 = some (m + 4) := H.2.2.2.2.1.1
theorem md_K4 (H : mdl M m) : mKd M (m + 4) = 100 := H.2.2.2.2.1.2.1
theorem md_L4 (H : mdl M m) : mLn M (m + 4) = 150 := H.2.2.2.2.1.2.2
theorem md_R5 (H : mdl M m) : mR M 1647 m 0 = some (m + 5) := H.2.2.2.2.2.1.1
theorem md_K5 (H : mdl M m) : mKd M (m + 5) = 100 := H.2.2.2.2.2.1.2.1
theorem md_L5 (H : mdl M m) : mLn M (m + 5) = 150 := H.2.2.2.2.2.1.2.2
theorem md_R6 (H : mdl M m) : mR M 1648 m 0 = some (m + 6) := H.2.2.2.2.2.2.1.1
theorem md_K6 (H : mdl M m) : mKd M (m + 6) = 100 := H.2.2.2.2.2.2.1.2.1
theorem md_L6 (H : mdl M m) : mLn M (m + 6) = 150 := H.2.2.2.2.2.2.1.2.2
theorem md_R7 (H : mdl M m) : mR M 1649 m 0 = some (m + 7) := H.2.2.2.2.2.2.2.1.1
theorem md_K7 (H : mdl M m) : mKd M (m + 7) = 100 := H.2.2.2.2.2.2.2.1.2.1
theorem md_L7 (H : mdl M m) : mLn M (m + 7) = 150 := H.2.2.2.2.2.2.2.1.2.2
theorem md_R8 (H : mdl M m) : mR M 1650 m 0 = some (m + 8) := H.2.2.2.2.2.2.2.2.1.1
theorem md_K8 (H : mdl M m) : mKd M (m + 8) = 100 := H.2.2.2.2.2.2.2.2.1.2.1
theorem md_L8 (H : mdl M m) : mLn M (m + 8) = 150 := H.2.2.2.2.2.2.2.2.1.2.2
theorem md_R9 (H : mdl M m) : mR M 1651 m 0 = some (m + 9) := H.2.2.2.2.2.2.2.2.2.1.1
theorem md_K9 (H : mdl M m) : mKd M (m + 9) = 100 := H.2.2.2.2.2.2.2.2.2.1.2.1
theorem md_L9 (H : mdl M m) : mLn M (m + 9) = 150 := H.2.2.2.2.2.2.2.2.2.1.2.2
theorem md_R10 (H : mdl M m) : mR M 1652 m 0 = some (m + 10) := H.2.2.2.2.2.2.2.2.2.2.1.1
theorem md_K10 (H : mdl M m) : mKd M (m + 10) = 100 := H.2.2.2.2.2.2.2.2.2.2.1.2.1
theorem md_L10 (H : mdl M m) : mLn M (m + 10) = 150 := H.2.2.2.2.2.2.2.2.2.2.1.2.2
theorem md_R11 (H : mdl M m) : mR M 1653 m 0 = some (m + 11) := H.2.2.2.2.2.2.2.2.2.2.2.1.1
theorem md_K11 (H : mdl M m) : mKd M (m + 11) = 100 := H.2.2.2.2.2.2.2.2.2.2.2.1.2.1
theorem md_L11 (H : mdl M m) : mLn M (m + 11) = 150 := H.2.2.2.2.2.2.2.2.2.2.2.1.2.2
theorem md_R12 (H : mdl M m) : mR M 1654 m 0 = some (m + 12) := H.2.2.2.2.2.2.2.2.2.2.2.2.1.1
theorem md_K12 (H : mdl M m) : mKd M (m + 12) = 100 := H.2.2.2.2.2.2.2.2.2.2.2.2.1.2.1
theorem md_L12 (H : mdl M m) : mLn M (m + 12) = 150 := H.2.2.2.2.2.2.2.2.2.2.2.2.1.2.2
theorem md_R13 (H : mdl M m) : mR M 1655 m 0 = some (m + 13) := H.2.2.2.2.2.2.2.2.2.2.2.2.2.1.1
theorem md_K13 (H : mdl M m) : mKd M (m + 13) = 101 := H.2.2.2.2.2.2.2.2.2.2.2.2.2.1.2.1
theorem md_L13 (H : mdl M m) : mLn M (m + 13) = 150 := H.2.2.2.2.2.2.2.2.2.2.2.2.2.1.2.2
theorem md_R14 (H : mdl M m) : mR M 1656 m 0 = some (m + 14) := H.2.2.2.2.2.2.2.2.2.2.2.2.2.2.1.1
theorem md_K14 (H : mdl M m) : mKd M (m + 14) = 100 := H.2.2.2.2.2.2.2.2.2.2.2.2.2.2.1.2.1
theorem md_L14 (H : mdl M m) : mLn M (m + 14) = 150 := H.2.2.2.2.2.2.2.2.2.2.2.2.2.2.1.2.2
theorem md_R15 (H : mdl M m) : mR M 1657 m 0 = some (m + 15) := H.2.2.2.2.2.2.2.2.2.2.2.2.2.2.2.1.1
theorem md_K15 (H : mdl M m) : mKd M (m + 15) = 100 := H.2.2.2.2.2.2.2.2.2.2.2.2.2.2.2.1.2.1
theorem md_L15 (H : mdl M m) : mLn M (m + 15) = 150 := H.2.2.2.2.2.2.2.2.2.2.2.2.2.2.2.1.2.2
theorem md_R16 (H : mdl M m) : mR M 1658 m 0 = some (m + 16) := H.2.2.2.2.2.2.2.2.2.2.2.2.2.2.2.2.1.1
theorem md_K16 (H : mdl M m) : mKd M (m + 16) = 100 := H.2.2.2.2.2.2.2.2.2.2.2.2.2.2.2.2.1.2.1
theorem md_L16 (H : mdl M m) : mLn M (m + 16) = 150 := H.2.2.2.2.2.2.2.2.2.2.2.2.2.2.2.2.1.2.2
theorem md_R17 (H : mdl M m) : mR M 1659 m 0 = some (m + 17) := H.2.2.2.2.2.2.2.2.2.2.2.2.2.2.2.2.2.1.1
theorem md_K17 (H : mdl M m) : mKd M (m + 17) = 100 := H.2.2.2.2.2.2.2.2.2.2.2.2.2.2.2.2.2.1.2.1
theorem md_L17 (H : mdl M m) : mLn M (m + 17) = 600 := H.2.2.2.2.2.2.2.2.2.2.2.2.2.2.2.2.2.1.2.2
theorem md_R18 (H : mdl M m) : mR M 1660 m 0 = some (m + 18) := H.2.2.2.2.2.2.2.2.2.2.2.2.2.2.2.2.2.2.1.1
theorem md_K18 (H : mdl M m) : mKd M (m + 18) = 100 := H.2.2.2.2.2.2.2.2.2.2.2.2.2.2.2.2.2.2.1.2.1
theorem md_L18 (H : mdl M m) : mLn M (m + 18) = 600 := H.2.2.2.2.2.2.2.2.2.2.2.2.2.2.2.2.2.2.1.2.2
theorem md_R19 (H : mdl M m) : mR M 1661 m 0 = some (m + 19) := H.2.2.2.2.2.2.2.2.2.2.2.2.2.2.2.2.2.2.2.1.1
theorem md_K19 (H : mdl M m) : mKd M (m + 19) = 100 := H.2.2.2.2.2.2.2.2.2.2.2.2.2.2.2.2.2.2.2.1.2.1
theorem md_L19 (H : mdl M m) : mLn M (m + 19) = 600 := H.2.2.2.2.2.2.2.2.2.2.2.2.2.2.2.2.2.2.2.1.2.2
theorem md_R20 (H : mdl M m) : mR M 1662 m 0 = some (m + 20) := H.2.2.2.2.2.2.2.2.2.2.2.2.2.2.2.2.2.2.2.2.1.1
theorem md_K20 (H : mdl M m) : mKd M (m + 20) = 100 := H.2.2.2.2.2.2.2.2.2.2.2.2.2.2.2.2.2.2.2.2.1.2.1
theorem md_L20 (H : mdl M m) : mLn M (m + 20) = 600 := H.2.2.2.2.2.2.2.2.2.2.2.2.2.2.2.2.2.2.2.2.1.2.2
theorem md_R21 (H : mdl M m) : mR M 1663 m 0 = some (m + 21) := H.2.2.2.2.2.2.2.2.2.2.2.2.2.2.2.2.2.2.2.2.2.1.1
theorem md_K21 (H : mdl M m) : mKd M (m + 21) = 100 := H.2.2.2.2.2.2.2.2.2.2.2.2.2.2.2.2.2.2.2.2.2.1.2.1
theorem md_L21 (H : mdl M m) : mLn M (m + 21) = 600 := H.2.2.2.2.2.2.2.2.2.2.2.2.2.2.2.2.2.2.2.2.2.1.2.2
theorem md_R22 (H : mdl M m) : mR M 1664 m 0 = some (m + 22) := H.2.2.2.2.2.2.2.2.2.2.2.2.2.2.2.2.2.2.2.2.2.2.1.1
theorem md_K22 (H : mdl M m) : mKd M (m + 22) = 100 := H.2.2.2.2.2.2.2.2.2.2.2.2.2.2.2.2.2.2.2.2.2.2.1.2.1
theorem md_L22 (H : mdl M m) : mLn M (m + 22) = 600 := H.2.2.2.2.2.2.2.2.2.2.2.2.2.2.2.2.2.2.2.2.2.2.1.2.2
theorem md_R23 (H : mdl M m) : mR M 1665 m 0 = some (m + 23) := H.2.2.2.2.2.2.2.2.2.2.2.2.2.2.2.2.2.2.2.2.2.2.2.1.1
theorem md_K23 (H : mdl M m) : mKd M (m + 23) = 100 := H.2.2.2.2.2.2.2.2.2.2.2.2.2.2.2.2.2.2.2.2.2.2.2.1.2.1
theorem md_L23 (H : mdl M m) : mLn M (m + 23) = 600 := H.2.2.2.2.2.2.2.2.2.2.2.2.2.2.2.2.2.2.2.2.2.2.2.1.2.2
theorem md_R24 (H : mdl M m) : mR M 1668 m 0 = some (m + 24) := H.2.2.2.2.2.2.2.2.2.2.2.2.2.2.2.2.2.2.2.2.2.2.2.2.1.1
theorem md_K24 (H : mdl M m) : mKd M (m + 24) = 100 := H.2.2.2.2.2.2.2.2.2.2.2.2.2.2.2.2.2.2.2.2.2.2.2.2.1.2.1
theorem md_L24 (H : mdl M m) : mLn M (m + 24) = 451 := H.2.2.2.2.2.2.2.2.2.2.2.2.2.2.2.2.2.2.2.2.2.2.2.2.1.2.2
theorem md_R25 (H : mdl M m) : mR M 1669 m 0 = some (m + 25) := H.2.2.2.2.2.2.2.2.2.2.2.2.2.2.2.2.2.2.2.2.2.2.2.2.2.1
theorem md_K25 (H : mdl M m) : mKd M (m + 25) = 100 := H.2.2.2.2.2.2.2.2.2.2.2.2.2.2.2.2.2.2.2.2.2.2.2.2.2.2.1
theorem md_L25 (H : mdl M m) : mLn M (m + 25) = 30 := H.2.2.2.2.2.2.2.2.2.2.2.2.2.2.2.2.2.2.2.2.2.2.2.2.2.2.2
end MDL
theorem mI_sD1 (M : me_M) (m : Nat) (D : me_D) (i : Nat) : mI (sD M m D) 101 (m + 1) i = D 1 i := mI_sDa M m D 1 101 i (by decide) (by decide) (by decide)
theorem mS_sD1 (M : me_M) (m : Nat) (D : me_D) (i : Nat) (v : Int32) : mSetI (sD M m D) 101 (m + 1) i v = sD M m (dU D 1 i v) := mS_sDa M m D 1 101 i v (by decide) (by decide) (by decide)
theorem mI_sD2 (M : me_M) (m : Nat) (D : me_D) (i : Nat) : mI (sD M m D) 100 (m + 2) i = D 2 i := mI_sDa M m D 2 100 i (by decide) (by decide) (by decide)
theorem mS_sD2 (M : me_M) (m : Nat) (D : me_D) (i : Nat) (v : Int32) : mSetI (sD M m D) 100 (m + 2) i v = sD M m (dU D 2 i v) := mS_sDa M m D 2 100 i v (by decide) (by decide) (by decide)
theorem mI_sD3 (M : me_M) (m : Nat) (D : me_D) (i : Nat) : mI (sD M m D) 100 (m + 3) i = D 3 i := mI_sDa M m D 3 100 i (by decide) (by decide) (by decide)
theorem mS_sD3 (M : me_M) (m : Nat) (D : me_D) (i : Nat) (v : Int32) : mSetI (sD M m D) 100 (m + 3) i v = sD M m (dU D 3 i v) := mS_sDa M m D 3 100 i v (by decide) (by decide) (by decide)
theorem mI_sD4 (M : me_M) (m : Nat) (D : me_D) (i : Nat) : mI (sD M m D) 100 (m + 4) i = D 4 i := mI_sDa M m D 4 100 i (by decide) (by decide) (by decide)
theorem mS_sD4 (M : me_M) (m : Nat) (D : me_D) (i : Nat) (v : Int32) : mSetI (sD M m D) 100 (m + 4) i v = sD M m (dU D 4 i v) := mS_sDa M m D 4 100 i v (by decide) (by decide) (by decide)
theorem mI_sD5 (M : me_M) (m : Nat) (D : me_D) (i : Nat) : mI (sD M m D) 100 (m + 5) i = D 5 i := mI_sDa M m D 5 100 i (by decide) (by decide) (by decide)
theorem mS_sD5 (M : me_M) (m : Nat) (D : me_D) (i : Nat) (v : Int32) : mSetI (sD M m D) 100 (m + 5) i v = sD M m (dU D 5 i v) := mS_sDa M m D 5 100 i v (by decide) (by decide) (by decide)
theorem mI_sD6 (M : me_M) (m : Nat) (D : me_D) (i : Nat) : mI (sD M m D) 100 (m + 6) i = D 6 i := mI_sDa M m D 6 100 i (by decide) (by decide) (by decide)
theorem mS_sD6 (M : me_M) (m : Nat) (D : me_D) (i : Nat) (v : Int32) : mSetI (sD M m D) 100 (m + 6) i v = sD M m (dU D 6 i v) := mS_sDa M m D 6 100 i v (by decide) (by decide) (by decide)
theorem mI_sD7 (M : me_M) (m : Nat) (D : me_D) (i : Nat) : mI (sD M m D) 100 (m + 7) i = D 7 i := mI_sDa M m D 7 100 i (by decide) (by decide) (by decide)
theorem mS_sD7 (M : me_M) (m : Nat) (D : me_D) (i : Nat) (v : Int32) : mSetI (sD M m D) 100 (m + 7) i v = sD M m (dU D 7 i v) := mS_sDa M m D 7 100 i v (by decide) (by decide) (by decide)
theorem mI_sD8 (M : me_M) (m : Nat) (D : me_D) (i : Nat) : mI (sD M m D) 100 (m + 8) i = D 8 i := mI_sDa M m D 8 100 i (by decide) (by decide) (by decide)
theorem mS_sD8 (M : me_M) (m : Nat) (D : me_D) (i : Nat) (v : Int32) : mSetI (sD M m D) 100 (m + 8) i v = sD M m (dU D 8 i v) := mS_sDa M m D 8 100 i v (by decide) (by decide) (by decide)
theorem mI_sD9 (M : me_M) (m : Nat) (D : me_D) (i : Nat) : mI (sD M m D) 100 (m + 9) i = D 9 i := mI_sDa M m D 9 100 i (by decide) (by decide) (by decide)
theorem mS_sD9 (M : me_M) (m : Nat) (D : me_D) (i : Nat) (v : Int32) : mSetI (sD M m D) 100 (m + 9) i v = sD M m (dU D 9 i v) := mS_sDa M m D 9 100 i v (by decide) (by decide) (by decide)
theorem mI_sD10 (M : me_M) (m : Nat) (D : me_D) (i : Nat) : mI (sD M m D) 100 (m + 10) i = D 10 i := mI_sDa M m D 10 100 i (by decide) (by decide) (by decide)
theorem mS_sD10 (M : me_M) (m : Nat) (D : me_D) (i : Nat) (v : Int32) : mSetI (sD M m D) 100 (m + 10) i v = sD M m (dU D 10 i v) := mS_sDa M m D 10 100 i v (by decide) (by decide) (by decide)
theorem mI_sD11 (M : me_M) (m : Nat) (D : me_D) (i : Nat) : mI (sD M m D) 100 (m + 11) i = D 11 i := mI_sDa M m D 11 100 i (by decide) (by decide) (by decide)
theorem mS_sD11 (M : me_M) (m : Nat) (D : me_D) (i : Nat) (v : Int32) : mSetI (sD M m D) 100 (m + 11) i v = sD M m (dU D 11 i v) := mS_sDa M m D 11 100 i v (by decide) (by decide) (by decide)
theorem mI_sD12 (M : me_M) (m : Nat) (D : me_D) (i : Nat) : mI (sD M m D) 100 (m + 12) i = D 12 i := mI_sDa M m D 12 100 i (by decide) (by decide) (by decide)
theorem mS_sD12 (M : me_M) (m : Nat) (D : me_D) (i : Nat) (v : Int32) : mSetI (sD M m D) 100 (m + 12) i v = sD M m (dU D 12 i v) := mS_sDa M m D 12 100 i v (by decide) (by decide) (by decide)
theorem mI_sD13 (M : me_M) (m : Nat) (D : me_D) (i : Nat) : mI (sD M m D) 101 (m + 13) i = D 13 i := mI_sDa M m D 13 101 i (by decide) (by decide) (by decide)
theorem mS_sD13 (M : me_M) (m : Nat) (D : me_D) (i : Nat) (v : Int32) : mSetI (sD M m D) 101 (m + 13) i v = sD M m (dU D 13 i v) := mS_sDa M m D 13 101 i v (by decide) (by decide) (by decide)
theorem mI_sD14 (M : me_M) (m : Nat) (D : me_D) (i : Nat) : mI (sD M m D) 100 (m + 14) i = D 14 i := mI_sDa M m D 14 100 i (by decide) (by decide) (by decide)
theorem mS_sD14 (M : me_M) (m : Nat) (D : me_D) (i : Nat) (v : Int32) : mSetI (sD M m D) 100 (m + 14) i v = sD M m (dU D 14 i v) := mS_sDa M m D 14 100 i v (by decide) (by decide) (by decide)
theorem mI_sD15 (M : me_M) (m : Nat) (D : me_D) (i : Nat) : mI (sD M m D) 100 (m + 15) i = D 15 i := mI_sDa M m D 15 100 i (by decide) (by decide) (by decide)
theorem mS_sD15 (M : me_M) (m : Nat) (D : me_D) (i : Nat) (v : Int32) : mSetI (sD M m D) 100 (m + 15) i v = sD M m (dU D 15 i v) := mS_sDa M m D 15 100 i v (by decide) (by decide) (by decide)
theorem mI_sD16 (M : me_M) (m : Nat) (D : me_D) (i : Nat) : mI (sD M m D) 100 (m + 16) i = D 16 i := mI_sDa M m D 16 100 i (by decide) (by decide) (by decide)
theorem mS_sD16 (M : me_M) (m : Nat) (D : me_D) (i : Nat) (v : Int32) : mSetI (sD M m D) 100 (m + 16) i v = sD M m (dU D 16 i v) := mS_sDa M m D 16 100 i v (by decide) (by decide) (by decide)
theorem mI_sD17 (M : me_M) (m : Nat) (D : me_D) (i : Nat) : mI (sD M m D) 100 (m + 17) i = D 17 i := mI_sDa M m D 17 100 i (by decide) (by decide) (by decide)
theorem mS_sD17 (M : me_M) (m : Nat) (D : me_D) (i : Nat) (v : Int32) : mSetI (sD M m D) 100 (m + 17) i v = sD M m (dU D 17 i v) := mS_sDa M m D 17 100 i v (by decide) (by decide) (by decide)
theorem mI_sD18 (M : me_M) (m : Nat) (D : me_D) (i : Nat) : mI (sD M m D) 100 (m + 18) i = D 18 i := mI_sDa M m D 18 100 i (by decide) (by decide) (by decide)
theorem mS_sD18 (M : me_M) (m : Nat) (D : me_D) (i : Nat) (v : Int32) : mSetI (sD M m D) 100 (m + 18) i v = sD M m (dU D 18 i v) := mS_sDa M m D 18 100 i v (by decide) (by decide) (by decide)
theorem mI_sD19 (M : me_M) (m : Nat) (D : me_D) (i : Nat) : mI (sD M m D) 100 (m + 19) i = D 19 i := mI_sDa M m D 19 100 i (by decide) (by decide) (by decide)
theorem mS_sD19 (M : me_M) (m : Nat) (D : me_D) (i : Nat) (v : Int32) : mSetI (sD M m D) 100 (m + 19) i v = sD M m (dU D 19 i v) := mS_sDa M m D 19 100 i v (by decide) (by decide) (by decide)
theorem mI_sD20 (M : me_M) (m : Nat) (D : me_D) (i : Nat) : mI (sD M m D) 100 (m + 20) i = D 20 i := mI_sDa M m D 20 100 i (by decide) (by decide) (by decide)
theorem mS_sD20 (M : me_M) (m : Nat) (D : me_D) (i : Nat) (v : Int32) : mSetI (sD M m D) 100 (m + 20) i v = sD M m (dU D 20 i v) := mS_sDa M m D 20 100 i v (by decide) (by decide) (by decide)
theorem mI_sD21 (M : me_M) (m : Nat) (D : me_D) (i : Nat) : mI (sD M m D) 100 (m + 21) i = D 21 i := mI_sDa M m D 21 100 i (by decide) (by decide) (by decide)
theorem mS_sD21 (M : me_M) (m : Nat) (D : me_D) (i : Nat) (v : Int32) : mSetI (sD M m D) 100 (m + 21) i v = sD M m (dU D 21 i v) := mS_sDa M m D 21 100 i v (by decide) (by decide) (by decide)
theorem mI_sD22 (M : me_M) (m : Nat) (D : me_D) (i : Nat) : mI (sD M m D) 100 (m + 22) i = D 22 i := mI_sDa M m D 22 100 i (by decide) (by decide) (by decide)
theorem mS_sD22 (M : me_M) (m : Nat) (D : me_D) (i : Nat) (v : Int32) : mSetI (sD M m D) 100 (m + 22) i v = sD M m (dU D 22 i v) := mS_sDa M m D 22 100 i v (by decide) (by decide) (by decide)
theorem mI_sD23 (M : me_M) (m : Nat) (D : me_D) (i : Nat) : mI (sD M m D) 100 (m + 23) i = D 23 i := mI_sDa M m D 23 100 i (by decide) (by decide) (by decide)
theorem mS_sD23 (M : me_M) (m : Nat) (D : me_D) (i : Nat) (v : Int32) : mSetI (sD M m D) 100 (m + 23) i v = sD M m (dU D 23 i v) := mS_sDa M m D 23 100 i v (by decide) (by decide) (by decide)
theorem mI_sD24 (M : me_M) (m : Nat) (D : me_D) (i : Nat) : mI (sD M m D) 100 (m + 24) i = D 24 i := mI_sDa M m D 24 100 i (by decide) (by decide) (by decide)
theorem mS_sD24 (M : me_M) (m : Nat) (D : me_D) (i : Nat) (v : Int32) : mSetI (sD M m D) 100 (m + 24) i v = sD M m (dU D 24 i v) := mS_sDa M m D 24 100 i v (by decide) (by decide) (by decide)
theorem mI_sD25 (M : me_M) (m : Nat) (D : me_D) (i : Nat) : mI (sD M m D) 100 (m + 25) i = D 25 i := mI_sDa M m D 25 100 i (by decide) (by decide) (by decide)
theorem mS_sD25 (M : me_M) (m : Nat) (D : me_D) (i : Nat) (v : Int32) : mSetI (sD M m D) 100 (m + 25) i v = sD M m (dU D 25 i v) := mS_sDa M m D 25 100 i v (by decide) (by decide) (by decide)
theorem mI_sDs1640 (M : me_M) (m : Nat) (D : me_D) : mI (sD M m D) 1640 m 0 = D 1640 0 := mI_sDs M m D 1640 (by decide) (by decide)
theorem mS_sDs1640 (M : me_M) (m : Nat) (D : me_D) (v : Int32) : mSetI (sD M m D) 1640 m 0 v = sD M m (dU D 1640 0 v) := mS_sDs M m D 1640 v (by decide) (by decide)
theorem mI_sDs1641 (M : me_M) (m : Nat) (D : me_D) : mI (sD M m D) 1641 m 0 = D 1641 0 := mI_sDs M m D 1641 (by decide) (by decide)
theorem mS_sDs1641 (M : me_M) (m : Nat) (D : me_D) (v : Int32) : mSetI (sD M m D) 1641 m 0 v = sD M m (dU D 1641 0 v) := mS_sDs M m D 1641 v (by decide) (by decide)
theorem mI_sDs1642 (M : me_M) (m : Nat) (D : me_D) : mI (sD M m D) 1642 m 0 = D 1642 0 := mI_sDs M m D 1642 (by decide) (by decide)
theorem mS_sDs1642 (M : me_M) (m : Nat) (D : me_D) (v : Int32) : mSetI (sD M m D) 1642 m 0 v = sD M m (dU D 1642 0 v) := mS_sDs M m D 1642 v (by decide) (by decide)
theorem mI_sDs1666 (M : me_M) (m : Nat) (D : me_D) : mI (sD M m D) 1666 m 0 = D 1666 0 := mI_sDs M m D 1666 (by decide) (by decide)
theorem mS_sDs1666 (M : me_M) (m : Nat) (D : me_D) (v : Int32) : mSetI (sD M m D) 1666 m 0 v = sD M m (dU D 1666 0 v) := mS_sDs M m D 1666 v (by decide) (by decide)
theorem mI_sDs1667 (M : me_M) (m : Nat) (D : me_D) : mI (sD M m D) 1667 m 0 = D 1667 0 := mI_sDs M m D 1667 (by decide) (by decide)
theorem mS_sDs1667 (M : me_M) (m : Nat) (D : me_D) (v : Int32) : mSetI (sD M m D) 1667 m 0 v = sD M m (dU D 1667 0 v) := mS_sDs M m D 1667 v (by decide) (by decide)
