section INIT1
variable {L M N : me_M} {m n k : Nat}
def fldM (j : Nat) : Nat := if j ≤ 23 then 1642 + j else 1644 + j
def lnM (j : Nat) : Nat := if j = 1 ∨ j = 3 then 5 else if j = 2 then 20 else if j ≤ 16 then 150 else if j ≤ 23 then 600 else if j = 24 then 451 else 30
/-- k of the reference's arrays made -/
def mP (L M : me_M) (m k : Nat) : Prop := mSz M = m + 1 + k ∧ wf M ∧ mKd M m = 11 ∧ mI M = mI L ∧ (∀ x, x < m → mKd M x = mKd L x ∧ mLn M x = mLn L x) ∧ (∀ f x i, (x < m ∨ f < 1640) → mR M f x i = mR L f x i) ∧ mSl M ≤ mSl L + 600 * k ∧ ∀ j, 1 ≤ j → j ≤ k → mR M (fldM j) m 0 = some (m + j) ∧ mKd M (m + j) = kdM j ∧ mLn M (m + j) = lnM j
theorem mP.kd (h : mP L M m k) {a l c : Nat} {M1 : me_M} (e : M1 = mNew M a l c) : mKd M1 m = 11 := by
  have := h.1
  rw [e, mKd_New, if_neg (by omega)]; exact h.2.2.1
theorem mP.s (h : mP L M m k) {q a l f : Nat} {M1 M5 : me_M} (e1 : q = mSz M) (e2 : M1 = mNew M a l l) (e5 : M5 = mSetR M1 f m 0 (some q)) (ha : a = kdM (k + 1)) (hl : l = lnM (k + 1)) (hf : f = fldM (k + 1)) : mP L M5 m (k + 1) := by
  rw [e5, e2, e1, hl, ha, hf]
  clear e1 e2 e5 ha hl hf
  obtain ⟨h1, h2, h3, h4, h5, h5', h6, h7⟩ := h
  have hfi : ∀ j, j ≤ k → ¬ fldM j = fldM (k + 1) := by
    intro j hj
    unfold fldM
    split <;> split <;> omega
  have hl6 : lnM (k + 1) ≤ 600 := by
    unfold lnM
    split
    · omega
    split
    · omega
    split
    · omega
    split
    · omega
    split <;> omega
  have hf6 : 1640 ≤ fldM (k + 1) := by unfold fldM; split <;> omega
  refine ⟨by rw [mSz_SetR, mSz_New, h1]; omega, (h2.new).setR (by rw [mSz_New]; omega), ?_, ?_, fun x hx => ⟨?_, ?_⟩, fun f x i hx => ?_, ?_, fun j j1 j2 => ?_⟩
  · rw [mKd_SetR, mKd_New, if_neg (by omega)]; exact h3
  · rw [mI_SetR, mI_New]; exact h4
  · rw [mKd_SetR, mKd_New, if_neg (by omega)]; exact (h5 x hx).1
  · rw [mLn_SetR, mLn_New, if_neg (by omega)]; exact (h5 x hx).2
  · rw [mR_SetR, if_neg (by omega), mR_New]; exact h5' f x i hx
  · rw [mSl_SetR, mSl_New]; omega
  · by_cases hj : j = k + 1
    · subst hj
      refine ⟨?_, ?_, ?_⟩
      · rw [mR_SetR, if_pos ⟨rfl, rfl, rfl⟩, h1, show m + 1 + k = m + (k + 1) by omega]
      · rw [mKd_SetR, mKd_New, if_pos (by omega)]
      · rw [mLn_SetR, mLn_New, if_pos (by omega)]
    · have := h7 j j1 (by omega)
      refine ⟨?_, ?_, ?_⟩
      · rw [mR_SetR, if_neg (fun z => hfi j (by omega) z.1), mR_New]; exact this.1
      · rw [mKd_SetR, mKd_New, if_neg (by omega)]; exact this.2.1
      · rw [mLn_SetR, mLn_New, if_neg (by omega)]; exact this.2.2
/-- the reference's memory at the beginning -/
def D0 (n : Nat) : me_D := fun j i => if i = 0 then (if j = 1640 then nI n else if j = 1641 then nI (n / 2) else if j = 1642 then nI (6 * n) else 0) else 0
theorem D0_z {j i : Nat} (h : ¬ (1640 ≤ j ∧ j ≤ 1642)) : D0 n j i = 0 := by
  unfold D0
  split
  · rw [if_neg (by omega), if_neg (by omega), if_neg (by omega)]
  · rfl
def mEnd (L N : me_M) (m n : Nat) : Prop := mdl N m ∧ sD N m (D0 n) = N ∧ wf N ∧ mSz N = m + 26 ∧ mSl N ≤ mSl L + 15000 ∧ (∀ x, x < m → mKd N x = mKd L x ∧ mLn N x = mLn L x) ∧ ∀ k q i, (q < m ∨ k < 1640) → mI N k q i = mI L k q i ∧ mR N k q i = mR L k q i
theorem md_fin (hL : mSz L = m + 1) (w : wf L) (h0 : ∀ k i, mI L k m i = 0) (h : mP L M m 25) {a b c : Int32} (ha : a = nI n) (hb : b = nI (n / 2)) (hc : c = nI (6 * n)) : mEnd L (mSetI (mSetI (mSetI M 1640 m 0 a) 1641 m 0 b) 1642 m 0 c) m n := by
  obtain ⟨z1, z2, z3, z4, z5, z5', z6, z7⟩ := h
  subst ha hb hc
  have hv : ∀ k q i, mI (mSetI (mSetI (mSetI M 1640 m 0 (nI n)) 1641 m 0 (nI (n / 2))) 1642 m 0 (nI (6 * n))) k q i = if q = m then D0 n k i else mI L k q i := by
    intro k q i
    rw [mI_SetI, mI_SetI, mI_SetI, z4]
    by_cases hq : q = m
    · subst hq
      rw [if_pos rfl]
      unfold D0
      by_cases hi : i = 0
      · subst hi
        by_cases k0 : k = 1640
        · subst k0; simp
        by_cases k1 : k = 1641
        · subst k1; simp
        by_cases k2 : k = 1642
        · subst k2; simp
        simp [k0, k1, k2, h0]
      · simp [hi, h0]
    · simp [hq]
  refine ⟨⟨z3, z7 1 (by decide) (by decide), z7 2 (by decide) (by decide), z7 3 (by decide) (by decide), z7 4 (by decide) (by decide), z7 5 (by decide) (by decide), z7 6 (by decide) (by decide), z7 7 (by decide) (by decide), z7 8 (by decide) (by decide), z7 9 (by decide) (by decide), z7 10 (by decide) (by decide), z7 11 (by decide) (by decide), z7 12 (by decide) (by decide), z7 13 (by decide) (by decide), z7 14 (by decide) (by decide), z7 15 (by decide) (by decide), z7 16 (by decide) (by decide), z7 17 (by decide) (by decide), z7 18 (by decide) (by decide), z7 19 (by decide) (by decide), z7 20 (by decide) (by decide), z7 21 (by decide) (by decide), z7 22 (by decide) (by decide), z7 23 (by decide) (by decide), z7 24 (by decide) (by decide), z7 25 (by decide) (by decide)⟩, ?_, ((z2.setI (by omega)).setI (by show _ < mSz M; omega)).setI (by show _ < mSz M; omega), by show mSz M = _; omega, by show mSl M ≤ _; omega, z5, fun k q i hq => ⟨?_, z5' k q i hq⟩⟩
  · generalize hN : mSetI (mSetI (mSetI M 1640 m 0 (nI n)) 1641 m 0 (nI (n / 2))) 1642 m 0 (nI (6 * n)) = N at hv ⊢
    refine Prod.ext rfl (Prod.ext rfl (Prod.ext ?_ rfl))
    funext k q i
    show (if m < q ∧ q ≤ m + 25 ∧ k = kdM (q - m) then D0 n (q - m) i else if q = m ∧ 1640 ≤ k ∧ k < 1670 ∧ i = 0 then D0 n k 0 else mI N k q i) = mI N k q i
    rw [hv]
    by_cases hz : m < q ∧ q ≤ m + 25 ∧ k = kdM (q - m)
    · rw [if_pos hz, if_neg (by omega), D0_z (by omega), ((w q (by omega)).2 k i).1]
    · rw [if_neg hz]
      by_cases hy : q = m ∧ 1640 ≤ k ∧ k < 1670 ∧ i = 0
      · rw [if_pos hy, if_pos hy.1, hy.2.2.2]
      · rw [if_neg hy]
  · rw [hv]
    by_cases hx : q = m
    · rw [if_pos hx, D0_z (by omega), hx, h0]
    · rw [if_neg hx]
theorem c_Md_init {v : Int32} (hn : n = if 4 ≤ v then 5 else 3) (w : wf M) (hs : mSz M = m + 1) (hk : mKd M m = 11) (hz : ∀ k i, mI M k m i = 0) : EX eL X_Md_init 0 [some (.inr (some m)), some (.inl v)] [] M (fun x N => x = none ∧ mEnd M N m n) := by
  have h0 : mP M M m 0 := ⟨hs, w, hk, rfl, fun _ _ => ⟨rfl, rfl⟩, fun _ _ _ _ => rfl, Nat.le_refl _, fun j j1 j2 => by omega⟩
  refine sg_Md_init_0 ?_
  intro q0 A0 a0 b0
  refine ⟨h0.kd b0, ?_⟩
  intro B0 c0
  have h1 : mP M B0 m 1 := h0.s a0 b0 c0 (by decide) (by decide) (by decide)
  clear h0 a0 b0 c0
  intro q1 A1 a1 b1
  refine ⟨h1.kd b1, ?_⟩
  intro B1 c1
  have h2 : mP M B1 m 2 := h1.s a1 b1 c1 (by decide) (by decide) (by decide)
  clear h1 a1 b1 c1
  intro q2 A2 a2 b2
  refine ⟨h2.kd b2, ?_⟩
  intro B2 c2
  have h3 : mP M B2 m 3 := h2.s a2 b2 c2 (by decide) (by decide) (by decide)
  clear h2 a2 b2 c2
  intro q3 A3 a3 b3
  refine ⟨h3.kd b3, ?_⟩
  intro B3 c3
  have h4 : mP M B3 m 4 := h3.s a3 b3 c3 (by decide) (by decide) (by decide)
  clear h3 a3 b3 c3
  intro q4 A4 a4 b4
  refine ⟨h4.kd b4, ?_⟩
  intro B4 c4
  have h5 : mP M B4 m 5 := h4.s a4 b4 c4 (by decide) (by decide) (by decide)
  clear h4 a4 b4 c4
  intro q5 A5 a5 b5
  refine ⟨h5.kd b5, ?_⟩
  intro B5 c5
  have h6 : mP M B5 m 6 := h5.s a5 b5 c5 (by decide) (by decide) (by decide)
  clear h5 a5 b5 c5
  intro q6 A6 a6 b6
  refine ⟨h6.kd b6, ?_⟩
  intro B6 c6
  have h7 : mP M B6 m 7 := h6.s a6 b6 c6 (by decide) (by decide) (by decide)
  clear h6 a6 b6 c6
  intro q7 A7 a7 b7
  refine ⟨h7.kd b7, ?_⟩
  intro B7 c7
  have h8 : mP M B7 m 8 := h7.s a7 b7 c7 (by decide) (by decide) (by decide)
  clear h7 a7 b7 c7
  intro q8 A8 a8 b8
  refine ⟨h8.kd b8, ?_⟩
  intro B8 c8
  have h9 : mP M B8 m 9 := h8.s a8 b8 c8 (by decide) (by decide) (by decide)
  clear h8 a8 b8 c8
  intro q9 A9 a9 b9
  refine ⟨h9.kd b9, ?_⟩
  intro B9 c9
  have h10 : mP M B9 m 10 := h9.s a9 b9 c9 (by decide) (by decide) (by decide)
  clear h9 a9 b9 c9
  intro q10 A10 a10 b10
  refine ⟨h10.kd b10, ?_⟩
  intro B10 c10
  have h11 : mP M B10 m 11 := h10.s a10 b10 c10 (by decide) (by decide) (by decide)
  clear h10 a10 b10 c10
  intro q11 A11 a11 b11
  refine ⟨h11.kd b11, ?_⟩
  intro B11 c11
  have h12 : mP M B11 m 12 := h11.s a11 b11 c11 (by decide) (by decide) (by decide)
  clear h11 a11 b11 c11
  intro q12 A12 a12 b12
  refine ⟨h12.kd b12, ?_⟩
  intro B12 c12
  have h13 : mP M B12 m 13 := h12.s a12 b12 c12 (by decide) (by decide) (by decide)
  clear h12 a12 b12 c12
  intro q13 A13 a13 b13
  refine ⟨h13.kd b13, ?_⟩
  intro B13 c13
  have h14 : mP M B13 m 14 := h13.s a13 b13 c13 (by decide) (by decide) (by decide)
  clear h13 a13 b13 c13
  intro q14 A14 a14 b14
  refine ⟨h14.kd b14, ?_⟩
  intro B14 c14
  have h15 : mP M B14 m 15 := h14.s a14 b14 c14 (by decide) (by decide) (by decide)
  clear h14 a14 b14 c14
  intro q15 A15 a15 b15
  refine ⟨h15.kd b15, ?_⟩
  intro B15 c15
  have h16 : mP M B15 m 16 := h15.s a15 b15 c15 (by decide) (by decide) (by decide)
  clear h15 a15 b15 c15
  intro q16 A16 a16 b16
  refine ⟨h16.kd b16, ?_⟩
  intro B16 c16
  have h17 : mP M B16 m 17 := h16.s a16 b16 c16 (by decide) (by decide) (by decide)
  clear h16 a16 b16 c16
  intro q17 A17 a17 b17
  refine ⟨h17.kd b17, ?_⟩
  intro B17 c17
  have h18 : mP M B17 m 18 := h17.s a17 b17 c17 (by decide) (by decide) (by decide)
  clear h17 a17 b17 c17
  intro q18 A18 a18 b18
  refine ⟨h18.kd b18, ?_⟩
  intro B18 c18
  have h19 : mP M B18 m 19 := h18.s a18 b18 c18 (by decide) (by decide) (by decide)
  clear h18 a18 b18 c18
  intro q19 A19 a19 b19
  refine ⟨h19.kd b19, ?_⟩
  intro B19 c19
  have h20 : mP M B19 m 20 := h19.s a19 b19 c19 (by decide) (by decide) (by decide)
  clear h19 a19 b19 c19
  intro q20 A20 a20 b20
  refine ⟨h20.kd b20, ?_⟩
  intro B20 c20
  have h21 : mP M B20 m 21 := h20.s a20 b20 c20 (by decide) (by decide) (by decide)
  clear h20 a20 b20 c20
  intro q21 A21 a21 b21
  refine ⟨h21.kd b21, ?_⟩
  intro B21 c21
  have h22 : mP M B21 m 22 := h21.s a21 b21 c21 (by decide) (by decide) (by decide)
  clear h21 a21 b21 c21
  intro q22 A22 a22 b22
  refine ⟨h22.kd b22, ?_⟩
  intro B22 c22
  have h23 : mP M B22 m 23 := h22.s a22 b22 c22 (by decide) (by decide) (by decide)
  clear h22 a22 b22 c22
  intro q23 A23 a23 b23
  refine ⟨h23.kd b23, ?_⟩
  intro B23 c23
  have h24 : mP M B23 m 24 := h23.s a23 b23 c23 (by decide) (by decide) (by decide)
  clear h23 a23 b23 c23
  intro q24 A24 a24 b24
  refine ⟨h24.kd b24, ?_⟩
  intro B24 c24
  have h25 : mP M B24 m 25 := h24.s a24 b24 c24 (by decide) (by decide) (by decide)
  clear h24 a24 b24 c24
  constructor
  · intro hv M1 e1 M2 e2 M3 e3
    rw [e1, mI_SetI, if_pos ⟨rfl, rfl, rfl⟩] at e2
    rw [e2, mI_SetI, if_neg (fun z => absurd z.1 (by decide)), mI_SetI, if_pos ⟨rfl, rfl, rfl⟩] at e3
    rw [if_pos hv] at hn
    rw [e3, hn]
    exact ⟨rfl, md_fin hs w hz h25 (by decide) (by decide) (by decide)⟩
  · intro hv M1 e1 M2 e2 M3 e3
    rw [e1, mI_SetI, if_pos ⟨rfl, rfl, rfl⟩] at e2
    rw [e2, mI_SetI, if_neg (fun z => absurd z.1 (by decide)), mI_SetI, if_pos ⟨rfl, rfl, rfl⟩] at e3
    rw [if_neg hv] at hn
    rw [e3, hn]
    exact ⟨rfl, md_fin hs w hz h25 (by decide) (by decide) (by decide)⟩
end INIT1
