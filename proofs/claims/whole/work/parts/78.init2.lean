section INIT2
variable {L M N : me_M} {b n r i q nb s c : Nat}
/-- what may change is empty, from b on -/
def zM (M : me_M) (b : Nat) : Prop := ∀ k q i, mutK k = true → b ≤ q → mI M k q i = 0 ∧ mR M k q i = none
/-- alike below b -/
def lo (L M : me_M) (b : Nat) : Prop := ∀ x, x < b → mKd M x = mKd L x ∧ mLn M x = mLn L x ∧ ∀ k j, mI M k x j = mI L k x j ∧ mR M k x j = mR L k x j
theorem lo.refl : lo M M b := fun _ _ => ⟨rfl, rfl, fun _ _ => ⟨rfl, rfl⟩⟩
theorem lo.new (h : lo L M b) (hb : b ≤ mSz M) {k l c : Nat} : lo L (mNew M k l c) b := by
  intro x hx
  rw [mKd_New, mLn_New, if_neg (by omega), if_neg (by omega)]
  exact h x hx
theorem lo.setR (h : lo L M b) (hq : b ≤ q) {k i : Nat} {v : Option Nat} : lo L (mSetR M k q i v) b := by
  intro x hx
  refine ⟨(h x hx).1, (h x hx).2.1, fun k' j => ⟨((h x hx).2.2 k' j).1, ?_⟩⟩
  rw [mR_SetR, if_neg (by omega)]
  exact ((h x hx).2.2 k' j).2
theorem lo.setI (h : lo L M b) (hq : b ≤ q) {k i : Nat} {v : Int32} : lo L (mSetI M k q i v) b := by
  intro x hx
  refine ⟨(h x hx).1, (h x hx).2.1, fun k' j => ⟨?_, ((h x hx).2.2 k' j).2⟩⟩
  rw [mI_SetI, if_neg (by omega)]
  exact ((h x hx).2.2 k' j).1
theorem zM.new (h : zM M b) {k l c : Nat} : zM (mNew M k l c) b := h
theorem zM.setR (h : zM M b) {k i : Nat} {v : Option Nat} (hk : mutK k = false) : zM (mSetR M k q i v) b := by
  intro k' q' i' hk' hq'
  refine ⟨(h k' q' i' hk' hq').1, ?_⟩
  rw [mR_SetR, if_neg (fun z => by rw [z.1, hk] at hk'; cases hk')]
  exact (h k' q' i' hk' hq').2
theorem zM.setI (h : zM M b) {k i : Nat} {v : Int32} (hk : mutK k = false) : zM (mSetI M k q i v) b := by
  intro k' q' i' hk' hq'
  refine ⟨?_, (h k' q' i' hk' hq').2⟩
  rw [mI_SetI, if_neg (fun z => by rw [z.1, hk] at hk'; cases hk')]
  exact (h k' q' i' hk' hq').1
theorem zM.up (h : zM M b) (hq : b ≤ q) : zM M q := fun k x i hk hx => h k x i hk (by omega)
theorem n0c {c : Nat} (hc : c ≤ 30) : ¬ nI c < 0 ∧ (nI c).toNatClampNeg ≤ 100000 := by
  rw [cl (by omega), show (0 : Int32) = nI 0 from rfl, nlt (by omega) (by omega)]
  omega
theorem c_Net_init (hs : mSz M = s + 1) (hk : mKd M s = 2) : EX eL X_Net_init 0 [some (.inr (some s))] [] M (fun x N => x = none ∧ N = mSetR (mNew M 102 40 40) 1064 s 0 (some (s + 1))) := by
  refine sg_Net_init_0 ?_
  intro q2 M1 e1 e2
  rw [show (40 : Int32).toNatClampNeg = 40 by decide] at e2
  refine ⟨by rw [e2, mKd_New, if_neg (by omega)]; exact hk, fun M5 e5 => ⟨rfl, ?_⟩⟩
  rw [e5, e2, e1, hs]
theorem c_Sto_init (hs : mSz M = s + 1) (hk : mKd M s = 5) (hc : c ≤ 30) : EX eL X_Sto_init 0 [some (.inr (some s)), some (.inl (nI c))] [] M (fun x N => x = none ∧ N = mSetR (mNew (mSetR (mNew M 100 4 4) 1256 s 0 (some (s + 1))) 100 c c) 1257 s 0 (some (s + 2))) := by
  refine sg_Sto_init_0 ?_
  intro q2 M1 e1 e2
  rw [show (4 : Int32).toNatClampNeg = 4 by decide] at e2
  refine ⟨by rw [e2, mKd_New, if_neg (by omega)]; exact hk, fun M5 e5 => ⟨(n0c hc).1, (n0c hc).2, ?_⟩⟩
  intro q7 M6 e7 e6
  rw [cl (by omega)] at e6
  have z5 : mSz M5 = s + 2 := by rw [e5, mSz_SetR, e2, mSz_New]; omega
  refine ⟨by rw [e6, mKd_New, if_neg (by omega), e5, mKd_SetR, e2, mKd_New, if_neg (by omega)]; exact hk, fun M12 e12 => ⟨rfl, ?_⟩⟩
  rw [e12, e6, e7, z5, e5, e2, e1, hs]
/-- a replica's own cells -/
def skQ (M : me_M) (q n r nb : Nat) : Prop := (∀ i, i < 6 * n → mR M 104 (q + 1) i = some (q + 2 + i) ∧ mKd M (q + 2 + i) = 4) ∧ mKd M q = 3 ∧ mI M 1128 q 0 = nI r ∧ mI M 1129 q 0 = nI n ∧ mI M 1130 q 0 = nI (n / 2) ∧ mR M 1131 q 0 = some nb ∧ mR M 1132 q 0 = some (q + 1) ∧ mR M 1133 q 0 = some (q + 2 + 6 * n) ∧ mR M 1134 q 0 = some (q + 3 + 6 * n) ∧ mKd M (q + 1) = 104 ∧ mLn M (q + 1) = 6 * n ∧ mKd M (q + 2 + 6 * n) = 105 ∧ mLn M (q + 2 + 6 * n) = 6 * n ∧ mKd M (q + 3 + 6 * n) = 5 ∧ mR M 1256 (q + 3 + 6 * n) 0 = some (q + 4 + 6 * n) ∧ mR M 1257 (q + 3 + 6 * n) 0 = some (q + 5 + 6 * n) ∧ mKd M (q + 4 + 6 * n) = 100 ∧ mLn M (q + 4 + 6 * n) = 4 ∧ mKd M (q + 5 + 6 * n) = 100 ∧ mLn M (q + 5 + 6 * n) = 6 * n
theorem skR_Q : skR M b n r ↔ mR M 103 (b + 3) r = some (aR b n r) ∧ skQ M (aR b n r) n r (b + 1) := Iff.rfl
/-- i of a replica's entries made -/
def rI (L M : me_M) (q n r nb i : Nat) : Prop := mSz M = q + 2 + i ∧ wf M ∧ mSl M ≤ mSl L + 30 + 6 * i ∧ lo L M q ∧ zM M q ∧ (∀ j, j < i → mR M 104 (q + 1) j = some (q + 2 + j) ∧ mKd M (q + 2 + j) = 4) ∧ mKd M q = 3 ∧ mI M 1128 q 0 = nI r ∧ mI M 1129 q 0 = nI n ∧ mI M 1130 q 0 = nI (n / 2) ∧ mR M 1131 q 0 = some nb ∧ mR M 1132 q 0 = some (q + 1) ∧ mKd M (q + 1) = 104 ∧ mLn M (q + 1) = 6 * n
def rE (L N : me_M) (q n r nb : Nat) : Prop := skQ N q n r nb ∧ wf N ∧ mSz N = q + (6 * n + 6) ∧ mSl N ≤ mSl L + 400 ∧ zM N q ∧ lo L N q
theorem c_Rp_loop (hn : n = 3 ∨ n = 5) : ∀ t i M, i + t = 6 * n → rI L M q n r nb i → EX eL X_Rp_init 40 [some (.inr (some q)), none, none, none, some (.inl (nI i))] [] M (fun x N => x = none ∧ rE L N q n r nb) := by
  intro t
  induction t with
  | zero =>
    intro i M ht I
    have hi : i = 6 * n := by omega
    subst hi
    obtain ⟨z1, z2, z3, z4, z5, z6, z7, z8, z9, z10, z11, z12, z13, z14⟩ := I
    refine sg_Rp_init_40 ⟨z7, _, z12, z13, ?_, ?_⟩
    · intro _
      rw [z14, oN, cl (by omega)]
      refine ⟨by rw [show (0 : Int32) = nI 0 from rfl, nlt (by omega) (by omega)]; omega, by omega, ?_⟩
      intro q6 M5 e6 e5
      rw [z1] at e6
      have k5 : ∀ x, mKd M5 x = if x = q + 2 + 6 * n then 105 else mKd M x := fun x => by rw [e5, mKd_New, z1]
      have l5 : ∀ x, mLn M5 x = if x = q + 2 + 6 * n then 6 * n else mLn M x := fun x => by rw [e5, mLn_New, z1]
      have s5 : mSz M5 = q + 3 + 6 * n := by rw [e5, mSz_New]; omega
      have w5 : wf M5 := by rw [e5]; exact z2.new
      have o5 : lo L M5 q := by rw [e5]; exact z4.new (by omega)
      have y5 : zM M5 q := by rw [e5]; exact z5.new
      have t5 : mSl M5 = mSl M + 6 * n := by rw [e5]; rfl
      have i5 : mI M5 = mI M := by rw [e5]; rfl
      have r5 : mR M5 = mR M := by rw [e5]; rfl
      clear e5
      refine ⟨by rw [k5, if_neg (by omega)]; exact z7, ?_⟩
      intro M11 e11 q13 M12 e13 e12
      have s11 : mSz M11 = q + 3 + 6 * n := by rw [e11]; exact s5
      rw [s11] at e13
      have k12 : ∀ x, mKd M12 x = if x = q + 3 + 6 * n then 5 else mKd M5 x := fun x => by rw [e12, mKd_New, s11, e11]; rfl
      have l12 : ∀ x, mLn M12 x = if x = q + 3 + 6 * n then 0 else mLn M5 x := fun x => by rw [e12, mLn_New, s11, e11]; rfl
      have r12 : ∀ k x j, mR M12 k x j = if k = 1133 ∧ x = q ∧ j = 0 then some (q + 2 + 6 * n) else mR M k x j := fun k x j => by rw [e12, mR_New, e11, mR_SetR, e6, r5]
      have i12 : mI M12 = mI M := by rw [e12, e11, mI_New, mI_SetR, i5]
      have s12 : mSz M12 = q + 3 + 6 * n + 1 := by rw [e12, mSz_New, s11]
      have w12 : wf M12 := by rw [e12, e11]; exact (w5.setR (by omega)).new
      have o12 : lo L M12 q := by rw [e12, e11]; exact (o5.setR (Nat.le_refl _)).new (by rw [mSz_SetR]; omega)
      have y12 : zM M12 q := by rw [e12, e11]; exact (y5.setR (by decide)).new
      have t12 : mSl M12 = mSl M5 + 4 := by rw [e12, e11]; rfl
      clear e12 e11 e6
      have q1 : mR M12 1132 q 0 = some (q + 1) := by rw [r12, if_neg (by omega)]; exact z12
      have q2 : mKd M12 (q + 1) = 104 := by rw [k12, if_neg (by omega), k5, if_neg (by omega)]; exact z13
      have q3 : mLn M12 (q + 1) = 6 * n := by rw [l12, if_neg (by omega), l5, if_neg (by omega)]; exact z14
      refine ⟨by rw [k12, if_neg (by omega), k5, if_neg (by omega)]; exact z7, _, q1, q2, ?_⟩
      rw [q3, oN, e13]
      refine EX.mono (c_Sto_init s12 (by rw [k12, if_pos rfl]) (by omega)) fun x M19 hv => ?_
      obtain ⟨rfl, e19⟩ := hv
      have k19 : ∀ x, mKd M19 x = if x = q + 3 + 6 * n + 2 then 100 else if x = q + 3 + 6 * n + 1 then 100 else mKd M12 x := fun x => by rw [e19, mKd_SetR, mKd_New, mSz_SetR, mSz_New, s12, mKd_SetR, mKd_New, s12]
      have l19 : ∀ x, mLn M19 x = if x = q + 3 + 6 * n + 2 then 6 * n else if x = q + 3 + 6 * n + 1 then 4 else mLn M12 x := fun x => by rw [e19, mLn_SetR, mLn_New, mSz_SetR, mSz_New, s12, mLn_SetR, mLn_New, s12]
      have r19 : ∀ k x j, mR M19 k x j = if k = 1257 ∧ x = q + 3 + 6 * n ∧ j = 0 then some (q + 3 + 6 * n + 2) else if k = 1256 ∧ x = q + 3 + 6 * n ∧ j = 0 then some (q + 3 + 6 * n + 1) else mR M12 k x j := fun k x j => by rw [e19, mR_SetR, mR_New, mR_SetR, mR_New]
      have i19 : mI M19 = mI M12 := by rw [e19]; rfl
      have s19 : mSz M19 = q + 3 + 6 * n + 3 := by rw [e19, mSz_SetR, mSz_New, mSz_SetR, mSz_New, s12]
      have w19 : wf M19 := by rw [e19]; exact (((w12.new).setR (by rw [mSz_New]; omega)).new).setR (by rw [mSz_New, mSz_SetR, mSz_New]; omega)
      have o19 : lo L M19 q := by rw [e19]; exact (((o12.new (by omega)).setR (by omega)).new (by rw [mSz_SetR, mSz_New]; omega)).setR (by omega)
      have y19 : zM M19 q := by rw [e19]; exact ((y12.new.setR (by decide)).new).setR (by decide)
      have t19 : mSl M19 = mSl M12 + 4 + 6 * n := by rw [e19]; rfl
      clear e19
      refine ⟨rfl, by rw [k19, if_neg (by omega), if_neg (by omega), k12, if_neg (by omega), k5, if_neg (by omega)]; exact z7, ?_⟩
      intro M22 e22
      rw [e22]
      refine ⟨rfl, ⟨fun j hj => ⟨?_, ?_⟩, ?_, ?_, ?_, ?_, ?_, ?_, ?_, ?_, ?_, ?_, ?_, ?_, ?_, ?_, ?_, ?_, ?_, ?_, ?_⟩, w19.setR (by omega), by rw [mSz_SetR]; omega, by rw [mSl_SetR]; omega, y19.setR (by decide), o19.setR (Nat.le_refl _)⟩
      all_goals simp (disch := omega) only [mKd_SetR, mLn_SetR, mI_SetR, mR_SetR, k19, l19, r19, i19, k12, l12, r12, i12, k5, l5, if_pos, if_neg, and_self, if_true]
      · exact (z6 j hj).1
      · exact (z6 j hj).2
      · exact z7
      · exact z8
      · exact z9
      · exact z10
      · exact z11
      · exact z12
      · exact z13
      · exact z14
      · rw [show q + 3 + 6 * n + 1 = q + 4 + 6 * n by omega]
      · rw [show q + 3 + 6 * n + 2 = q + 5 + 6 * n by omega]
    · intro h
      rw [z14, oN] at h
      exact absurd (Int32.le_refl _) h
  | succ t ih =>
    intro i M ht I
    obtain ⟨z1, z2, z3, z4, z5, z6, z7, z8, z9, z10, z11, z12, z13, z14⟩ := I
    refine sg_Rp_init_40 ⟨z7, _, z12, z13, ?_, ?_⟩
    · intro h
      rw [z14, oN, nle (by omega) (by omega)] at h
      omega
    · intro _ q24 M23 e24 e23
      rw [z1] at e24
      refine sg_En_init_0 ⟨rfl, ?_⟩
      have k1 : ∀ x, mKd M23 x = if x = q + 2 + i then 4 else mKd M x := fun x => by rw [e23, mKd_New, z1]
      have l1 : ∀ x, mLn M23 x = if x = q + 2 + i then 0 else mLn M x := fun x => by rw [e23, mLn_New, z1]
      have i1 : mI M23 = mI M := by rw [e23]; rfl
      have r1 : mR M23 = mR M := by rw [e23]; rfl
      have s1 : mSz M23 = q + 2 + (i + 1) := by rw [e23, mSz_New, z1]; omega
      have w1 : wf M23 := by rw [e23]; exact z2.new
      have o1 : lo L M23 q := by rw [e23]; exact z4.new (by omega)
      have y1 : zM M23 q := by rw [e23]; exact z5.new
      have t1 : mSl M23 = mSl M + 6 := by rw [e23]; rfl
      clear e23
      refine ⟨by rw [k1, if_neg (by omega)]; exact z13, by rw [l1, if_neg (by omega), z14]; exact vin (by omega) (by omega), by rw [k1, if_pos e24], ?_⟩
      intro M30 e30 x32 e32
      rw [e32, nI_i1]
      refine ih (i + 1) M30 (by omega) ?_
      rw [cl (by omega), e24] at e30
      rw [e30]
      refine ⟨s1, w1.setR (by omega), by rw [mSl_SetR]; omega, o1.setR (by omega), y1.setR (by decide), fun j hj => ⟨?_, ?_⟩, ?_, ?_, ?_, ?_, ?_, ?_, ?_, ?_⟩
      · rw [mR_SetR]
        by_cases hx : j = i
        · rw [if_pos ⟨rfl, rfl, hx⟩, hx]
        · rw [if_neg (fun z => hx z.2.2), r1]; exact (z6 j (by omega)).1
      · rw [mKd_SetR, k1]
        by_cases hx : j = i
        · rw [if_pos (by omega)]
        · rw [if_neg (by omega)]; exact (z6 j (by omega)).2
      all_goals simp (disch := omega) only [mKd_SetR, mLn_SetR, mI_SetR, mR_SetR, k1, l1, i1, r1, if_pos, if_neg, and_self, if_true]
      · exact z7
      · exact z8
      · exact z9
      · exact z10
      · exact z11
      · exact z12
      · exact z13
      · exact z14
theorem c_Rp_init (hn : n = 3 ∨ n = 5) (w : wf M) (hs : mSz M = q + 1) (hk : mKd M q = 3) (hz : zM M q) : EX eL X_Rp_init 0 [some (.inr (some q)), some (.inl (nI r)), some (.inl (nI n)), some (.inr (some nb)), none] [] M (fun x N => x = none ∧ rE M N q n r nb) := by
  refine sg_Rp_init_0 ⟨hk, ?_⟩
  intro M2 e2 M3 e3 M4 e4 M5 e5
  have hd : nI n / 2 = nI (n / 2) := by rcases hn with rfl | rfl <;> decide
  rw [hd] at e4
  rw [m6, cl (by omega)]
  refine ⟨by rw [show (0 : Int32) = nI 0 from rfl, nlt (by omega) (by omega)]; omega, by omega, ?_⟩
  intro q7 M6 e7 e6
  have s5 : mSz M5 = q + 1 := by rw [e5, e4, e3, e2]; exact hs
  rw [s5] at e7
  refine ⟨by rw [e6, mKd_New, s5, if_neg (by omega), e5, e4, e3, e2]; exact hk, ?_⟩
  intro M12 e12
  have hi5 : ∀ k x j, mI M5 k x j = if k = 1130 ∧ x = q ∧ j = 0 then nI (n / 2) else if k = 1129 ∧ x = q ∧ j = 0 then nI n else if k = 1128 ∧ x = q ∧ j = 0 then nI r else mI M k x j := fun k x j => by rw [e5, mI_SetR, e4, mI_SetI, e3, mI_SetI, e2, mI_SetI]
  refine c_Rp_loop hn (6 * n) 0 M12 (by omega) ?_
  rw [e12, e7]
  refine ⟨by rw [mSz_SetR, e6, mSz_New, s5], ?_, ?_, ?_, ?_, fun j hj => by omega, ?_, ?_, ?_, ?_, ?_, ?_, ?_, ?_⟩
  · refine wf.setR ?_ (by rw [e6, mSz_New]; omega)
    rw [e6]
    refine wf.new ?_
    rw [e5, e4, e3, e2]
    exact (((w.setI (by omega)).setI (by show _ < mSz M; omega)).setI (by show _ < mSz M; omega)).setR (by show _ < mSz M; omega)
  · rw [mSl_SetR, e6, mSl_New, e5, e4, e3, e2]
    show mSl M + 6 * n ≤ _
    omega
  · rw [e6]
    refine (lo.new ?_ (by omega)).setR (Nat.le_refl _)
    rw [e5, e4, e3, e2]
    exact (((lo.refl.setI (Nat.le_refl _)).setI (Nat.le_refl _)).setI (Nat.le_refl _)).setR (Nat.le_refl _)
  · rw [e6, e5, e4, e3, e2]
    exact (((((hz.setI (by decide)).setI (by decide)).setI (by decide)).setR (by decide)).new).setR (by decide)
  · rw [mKd_SetR, e6, mKd_New, s5, if_neg (by omega), e5, e4, e3, e2]; exact hk
  · rw [mI_SetR, e6, mI_New, hi5, if_neg (by omega), if_neg (by omega), if_pos ⟨rfl, rfl, rfl⟩]
  · rw [mI_SetR, e6, mI_New, hi5, if_neg (by omega), if_pos ⟨rfl, rfl, rfl⟩]
  · rw [mI_SetR, e6, mI_New, hi5, if_pos ⟨rfl, rfl, rfl⟩]
  · rw [mR_SetR, if_neg (by omega), e6, mR_New, e5, mR_SetR, if_pos ⟨rfl, rfl, rfl⟩]
  · rw [mR_SetR, if_pos ⟨rfl, rfl, rfl⟩]
  · rw [mKd_SetR, e6, mKd_New, s5, if_pos rfl]
  · rw [mLn_SetR, e6, mLn_New, s5, if_pos rfl]
end INIT2
