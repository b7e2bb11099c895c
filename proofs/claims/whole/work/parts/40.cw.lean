/-! the whole relation between the class's cells and D -/
/-- what an attempt's own numbers are, of the replies that D keeps -/
def AttOK (M : me_M) (n : Nat) (o : Option Nat) (D : me_D) (a : Nat) : Prop := (D 13 a = 0 → o = none) ∧ (¬ D 13 a = 0 → ∃ q c, o = some q ∧ mKd M q = 6 ∧ mI M 1320 q 0 = D 15 a ∧ D 16 a = nI c ∧ c ≤ 3 ∧ mI M 1324 q 0 = nI c ∧
  ((D 14 a = 0 ∧ mI M 1323 q 0 = 1 ∧ mI M 1321 q 0 = 1) ∨ (D 14 a = 1 ∧ mI M 1323 q 0 = 1 ∧ mI M 1321 q 0 = 0) ∨ (D 14 a = 2 ∧ mI M 1323 q 0 = 2) ∨ (D 14 a = 3 ∧ mI M 1323 q 0 = 0 ∧ mI M 1321 q 0 = 0)) ∧
  (mI M 1325 q 0 = 0 ∨ mI M 1325 q 0 = 1) ∧
  (0 < c → (D 14 a = 0 ∨ D 14 a = 1) → mI M 1325 q 0 = b01 (g_apU D a c).1 ∧ mI M 1326 q 0 = (g_apU D a c).2.1 ∧ mI M 1327 q 0 = (g_apU D a c).2.2) ∧
  (∃ w, mR M 1322 q 0 = some w ∧ mKd M w = 106 ∧ (D 14 a = 3 → mLn M w = n / 2 + 1 ∧ ∀ k, k < c → ∃ p, mR M 106 w k = some p ∧ RptOK M p (D 17 (4 * a + k)) (D 18 (4 * a + k)) (D 19 (4 * a + k)) (D 20 (4 * a + k)) (D 21 (4 * a + k)) (D 22 (4 * a + k)) (D 23 (4 * a + k)))))
def NetOK (M : me_M) (b : Nat) (D : me_D) : Prop := mI M 1065 (b + 1) 0 = D 1666 0 ∧ mI M 1066 (b + 1) 0 = D 1667 0 ∧ ∀ k, k < g_un D → ∃ q, mR M 102 (b + 2) k = some q ∧ MsgOK M q (fun j => D 24 (11 * k + j))
def StoOK (M : me_M) (b n r : Nat) (D : me_D) : Prop := (∀ k, k < 4 → mI M 100 (aR b n r + 4 + 6 * n) k = D 2 (4 * r + k)) ∧ mI M 1259 (aR b n r + 3 + 6 * n) 0 = D 3 r ∧ ∀ i, i < 6 * n → (bt (mI M 1258 (aR b n r + 3 + 6 * n) 0) i = true ↔ D 4 (30 * r + i) = 4)
/-- D alone: what is in range. c bounds ballots and seqs -/
def msgI (D : me_D) (n c k : Nat) : Prop := ∃ kd fr to i b : Nat, D 24 (11 * k) = nI kd ∧ kd ≤ 6 ∧ D 24 (11 * k + 1) = nI fr ∧ fr < n ∧ D 24 (11 * k + 2) = nI to ∧ to < n ∧ D 24 (11 * k + 3) = nI i ∧ i < 6 * n ∧ D 24 (11 * k + 4) = nI b ∧ b ≤ 5 * c ∧
  (∃ sq, D 24 (11 * k + 7) = nI sq ∧ sq ≤ c + 1) ∧ (∀ j, j < 32 → bt (D 24 (11 * k + 8)) j = true → j < 6 * n) ∧ (∃ st, D 24 (11 * k + 9) = nI st ∧ st ≤ 4)
def entI (D : me_D) (n c a : Nat) : Prop := (∃ st, D 4 a = nI st ∧ st ≤ 4) ∧ (∃ p, D 9 a = nI p ∧ p ≤ 5 * c) ∧ (∃ sq, D 7 a = nI sq ∧ sq ≤ c + 1) ∧ (∀ j, j < 32 → bt (D 8 a) j = true → j < 6 * n) ∧ (D 13 a = 0 ∨ D 13 a = 1) ∧ (∃ bl, D 15 a = nI bl ∧ bl ≤ 5 * c) ∧
  (∃ k, D 16 a = nI k ∧ k ≤ 3 ∧ (D 13 a = 0 → k = 0) ∧ (D 4 a < 3 → D 14 a = 0 → k < n - 2) ∧ (D 4 a < 3 → D 14 a = 1 → k < n / 2) ∧ (D 4 a < 3 → D 14 a = 2 → k < n / 2) ∧ (D 14 a = 3 → k < n / 2)) ∧
  (¬ D 13 a = 0 → ¬ D 14 a = 3 → ¬ D 4 a = 0) ∧
  ∀ k, k < 4 → (∃ sq, D 21 (4 * a + k) = nI sq ∧ sq ≤ c + 1) ∧ (∀ j, j < 32 → bt (D 22 (4 * a + k)) j = true → j < 6 * n)
def dI (D : me_D) (n c : Nat) : Prop := D 1640 0 = nI n ∧ D 1641 0 = nI (n / 2) ∧ D 1642 0 = nI (6 * n) ∧ uOK D ∧ (∀ r, r < n → D 1 r = 0 ∨ D 1 r = 1) ∧ (∀ k, k < g_un D → msgI D n c k) ∧ ∀ r i, r < n → i < 6 * n → entI D n c (30 * r + i)
/-- the attempts and their reports are each its own -/
def attD (M : me_M) (b n : Nat) : Prop := ∀ r i r' i' q, r < n → i < 6 * n → r' < n → i' < 6 * n → mR M 105 (aR b n r + 2 + 6 * n) i = some q → mR M 105 (aR b n r' + 2 + 6 * n) i' = some q → r = r' ∧ i = i'
def attR (M : me_M) (b n : Nat) : Prop := ∀ r i r' i' q q' w, r < n → i < 6 * n → r' < n → i' < 6 * n → mR M 105 (aR b n r + 2 + 6 * n) i = some q → mR M 105 (aR b n r' + 2 + 6 * n) i' = some q' → mR M 1322 q 0 = some w → mR M 1322 q' 0 = some w → r = r' ∧ i = i'
def cW (M : me_M) (b n : Nat) (D : me_D) : Prop := (n = 3 ∨ n = 5) ∧ wf M ∧ skel M b n ∧ (∀ r i, r < n → i < 6 * n → EntOK M (aR b n r + 2 + i) D (30 * r + i)) ∧ (∀ r i, r < n → i < 6 * n → AttOK M n (mR M 105 (aR b n r + 2 + 6 * n) i) D (30 * r + i)) ∧ attD M b n ∧ attR M b n ∧ NetOK M b D ∧ (∀ r, r < n → StoOK M b n r D) ∧ (∀ r, r < n → mI M 1135 (aR b n r) 0 = D 1 r) ∧ mI M 1004 b 0 = g_manyU D n
section CW
variable {M N : me_M} {b n r i : Nat} {D : me_D}
theorem cW.n5 (h : cW M b n D) : n ≤ 5 := by rcases h.1 with h | h <;> omega
theorem cW.n3 (h : cW M b n D) : 3 ≤ n := by rcases h.1 with h | h <;> omega
theorem c_LM_isReplica (S : skel M b n) {v : Int32} : EX eL X_LM_isReplica 0 [some (.inr (some b)), some (.inl v)] [] M (fun x N => x = some (.inl (b01 (decide (0 ≤ v ∧ v < nI n)))) ∧ N = M) := by
  refine sg_LM_isReplica_0 ?_
  simp only [s_kLM S, s_size S, true_and, and_true, Option.some.injEq, Sum.inl.injEq]
  have e1 : v < 0 ↔ ¬ 0 ≤ v := (Int32.not_le).symm
  have e2 : nI n ≤ v ↔ ¬ v < nI n := (Int32.not_lt).symm
  by_cases h1 : 0 ≤ v <;> by_cases h2 : v < nI n <;> simp [e1, e2, h1, h2, b01]
theorem c_LM_isKey {v : Int32} : EX eL X_LM_isKey 0 [some (.inr (some b)), some (.inl v)] [] M (fun x N => x = some (.inl (b01 (decide (0 ≤ v ∧ v < 4)))) ∧ N = M) := by
  refine sg_LM_isKey_0 ?_
  simp only [true_and, and_true, Option.some.injEq, Sum.inl.injEq]
  have e1 : v < 0 ↔ ¬ 0 ≤ v := (Int32.not_le).symm
  have e2 : 4 ≤ v ↔ ¬ v < 4 := (Int32.not_lt).symm
  by_cases h1 : 0 ≤ v <;> by_cases h2 : v < 4 <;> simp [e1, e2, h1, h2, b01]
end CW
