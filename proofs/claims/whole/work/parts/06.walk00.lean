theorem sg_Net_init_0 {h0 : Nat} {M : me_M} {Q : Option me_V → me_M → Prop} (h : ∀ q2 M1, q2 = mSz M → M1 = mNew M 102 (40 : Int32).toNatClampNeg (40 : Int32).toNatClampNeg → mKd M1 h0 = 2 ∧ ∀ M5, M5 = mSetR M1 1064 h0 0 (some q2) → Q none M5) : EX eL X_Net_init 0 [some (.inr (some h0))] [] M Q := by
  refine ex_aload_n (pc := 0) d_Net_init_0 rfl ?_
  refine ex_obj (pc := 1) d_Net_init_1 rfl (by decide) (Nat.le_of_ble_eq_true rfl) ?_
  refine ex_aload_n (pc := 4) d_Net_init_4 rfl ?_
  refine ex_bipush (w := 40) (pc := 5) d_Net_init_5 (by decide) ?_
  refine ex_newR (pc := 7) d_Net_init_7 rfl (by decide) (by decide) (by decide) (fun k3 => ?_)
  replace h := h _ _ rfl rfl
  obtain ⟨k4, h⟩ := h
  refine ex_putR (pc := 10) d_Net_init_10 rfl rfl k4 ?_
  replace h := h _ rfl
  exact ex_ret_v (pc := 13) d_Net_init_13 rfl h
theorem sg_En_init_0 {h0 : Nat} {M : me_M} {Q : Option me_V → me_M → Prop} (h : Q none M) : EX eL X_En_init 0 [some (.inr (some h0))] [] M Q := by
  refine ex_aload_n (pc := 0) d_En_init_0 rfl ?_
  refine ex_obj (pc := 1) d_En_init_1 rfl (by decide) (Nat.le_of_ble_eq_true rfl) ?_
  exact ex_ret_v (pc := 4) d_En_init_4 rfl h
theorem sg_Sto_init_0 {h0 : Nat} {v1 : Int32} {M : me_M} {Q : Option me_V → me_M → Prop} (h : ∀ q2 M1, q2 = mSz M → M1 = mNew M 100 (4 : Int32).toNatClampNeg (4 : Int32).toNatClampNeg → mKd M1 h0 = 5 ∧ ∀ M5, M5 = mSetR M1 1256 h0 0 (some q2) → ¬ v1 < 0 ∧ v1.toNatClampNeg ≤ 100000 ∧ ∀ q7 M6, q7 = mSz M5 → M6 = mNew M5 100 v1.toNatClampNeg v1.toNatClampNeg → mKd M6 h0 = 5 ∧ ∀ M12, M12 = mSetR M6 1257 h0 0 (some q7) → Q none M12) : EX eL X_Sto_init 0 [some (.inr (some h0)), some (.inl v1)] [] M Q := by
  refine ex_aload_n (pc := 0) d_Sto_init_0 rfl ?_
  refine ex_obj (pc := 1) d_Sto_init_1 rfl (by decide) (Nat.le_of_ble_eq_true rfl) ?_
  refine ex_aload_n (pc := 4) d_Sto_init_4 rfl ?_
  refine ex_iconst (w := 4) (pc := 5) d_Sto_init_5 (by decide) ?_
  refine ex_newI (pc := 6) d_Sto_init_6 rfl (by decide) (by decide) (fun k3 => ?_)
  replace h := h _ _ rfl rfl
  obtain ⟨k4, h⟩ := h
  refine ex_putR (pc := 8) d_Sto_init_8 rfl rfl k4 ?_
  replace h := h _ rfl
  refine ex_aload_n (pc := 11) d_Sto_init_11 rfl ?_
  refine ex_iload_n (pc := 12) d_Sto_init_12 rfl ?_
  obtain ⟨n9, n10, h⟩ := h
  refine ex_newI (pc := 13) d_Sto_init_13 rfl n9 n10 (fun k8 => ?_)
  replace h := h _ _ rfl rfl
  obtain ⟨k11, h⟩ := h
  refine ex_putR (pc := 15) d_Sto_init_15 rfl rfl k11 ?_
  replace h := h _ rfl
  exact ex_ret_v (pc := 18) d_Sto_init_18 rfl h
theorem sg_Rp_init_0 {h0 : Nat} {v1 : Int32} {v2 : Int32} {a3 : Option Nat} {M : me_M} {Q : Option me_V → me_M → Prop} (h : mKd M h0 = 3 ∧ ∀ M2, M2 = mSetI M 1128 h0 0 v1 → ∀ M3, M3 = mSetI M2 1129 h0 0 v2 → ∀ M4, M4 = mSetI M3 1130 h0 0 (v2 / 2) → ∀ M5, M5 = mSetR M4 1131 h0 0 a3 → ¬ (6 * v2) < 0 ∧ (6 * v2).toNatClampNeg ≤ 100000 ∧ ∀ q7 M6, q7 = mSz M5 → M6 = mNew M5 104 (6 * v2).toNatClampNeg (6 * v2).toNatClampNeg → mKd M6 h0 = 3 ∧ ∀ M12, M12 = mSetR M6 1132 h0 0 (some q7) → EX eL X_Rp_init 40 [some (.inr (some h0)), none, none, none, some (.inl 0)] [] M12 Q) : EX eL X_Rp_init 0 [some (.inr (some h0)), some (.inl v1), some (.inl v2), some (.inr a3), none] [] M Q := by
  refine ex_aload_n (pc := 0) d_Rp_init_0 rfl ?_
  refine ex_obj (pc := 1) d_Rp_init_1 rfl (by decide) (Nat.le_of_ble_eq_true rfl) ?_
  refine ex_aload_n (pc := 4) d_Rp_init_4 rfl ?_
  refine ex_iload_n (pc := 5) d_Rp_init_5 rfl ?_
  obtain ⟨k1, h⟩ := h
  refine ex_putI (pc := 6) d_Rp_init_6 rfl rfl k1 ?_
  replace h := h _ rfl
  refine ex_aload_n (pc := 9) d_Rp_init_9 rfl ?_
  refine ex_iload_n (pc := 10) d_Rp_init_10 rfl ?_
  refine ex_putI (pc := 11) d_Rp_init_11 rfl rfl k1 ?_
  replace h := h _ rfl
  refine ex_aload_n (pc := 14) d_Rp_init_14 rfl ?_
  refine ex_iload_n (pc := 15) d_Rp_init_15 rfl ?_
  refine ex_iconst (w := 2) (pc := 16) d_Rp_init_16 (by decide) ?_
  refine ex_idiv (pc := 17) d_Rp_init_17 (by decide) ?_
  refine ex_putI (pc := 18) d_Rp_init_18 rfl rfl k1 ?_
  replace h := h _ rfl
  refine ex_aload_n (pc := 21) d_Rp_init_21 rfl ?_
  refine ex_aload_n (pc := 22) d_Rp_init_22 rfl ?_
  refine ex_putR (pc := 23) d_Rp_init_23 rfl rfl k1 ?_
  replace h := h _ rfl
  refine ex_aload_n (pc := 26) d_Rp_init_26 rfl ?_
  refine ex_bipush (w := 6) (pc := 27) d_Rp_init_27 (by decide) ?_
  refine ex_iload_n (pc := 29) d_Rp_init_29 rfl ?_
  refine ex_imul (pc := 30) d_Rp_init_30 ?_
  obtain ⟨n9, n10, h⟩ := h
  refine ex_newR (pc := 31) d_Rp_init_31 rfl (by decide) n9 n10 (fun k8 => ?_)
  replace h := h _ _ rfl rfl
  obtain ⟨k11, h⟩ := h
  refine ex_putR (pc := 34) d_Rp_init_34 rfl rfl k11 ?_
  replace h := h _ rfl
  refine ex_iconst (w := 0) (pc := 37) d_Rp_init_37 (by decide) ?_
  refine ex_istore (ls2 := [_, _, _, _, _]) (pc := 38) d_Rp_init_38 (Nat.le_of_ble_eq_true rfl) rfl ?_
  refine ex_drop (k := 1) (ls2 := [_, _, _, _, _]) rfl ?_
  refine ex_drop (k := 2) (ls2 := [_, _, _, _, _]) rfl ?_
  refine ex_drop (k := 3) (ls2 := [_, _, _, _, _]) rfl ?_
  exact h
theorem sg_Rp_init_40 {h0 : Nat} {v4 : Int32} {M : me_M} {Q : Option me_V → me_M → Prop} (h : mKd M h0 = 3 ∧ ∃ q2, (mR M 1132 h0 0) = some q2 ∧ mKd M q2 = 104 ∧ (((Int32.ofNat (mLn M q2)) ≤ v4) → ¬ (Int32.ofNat (mLn M q2)) < 0 ∧ (Int32.ofNat (mLn M q2)).toNatClampNeg ≤ 100000 ∧ ∀ q6 M5, q6 = mSz M → M5 = mNew M 105 (Int32.ofNat (mLn M q2)).toNatClampNeg (Int32.ofNat (mLn M q2)).toNatClampNeg → mKd M5 h0 = 3 ∧ ∀ M11, M11 = mSetR M5 1133 h0 0 (some q6) → ∀ q13 M12, q13 = mSz M11 → M12 = mNew M11 5 0 4 → mKd M12 h0 = 3 ∧ ∃ q16, (mR M12 1132 h0 0) = some q16 ∧ mKd M12 q16 = 104 ∧ EX eL X_Sto_init 0 [some (.inr (some q13)), some (.inl (Int32.ofNat (mLn M12 q16)))] [] M12 (fun r20 M19 => r20 = none ∧ mKd M19 h0 = 3 ∧ ∀ M22, M22 = mSetR M19 1134 h0 0 (some q13) → Q none M22)) ∧ ((¬ (Int32.ofNat (mLn M q2)) ≤ v4) → ∀ q24 M23, q24 = mSz M → M23 = mNew M 4 0 6 → EX eL X_En_init 0 [some (.inr (some q24))] [] M23 (fun r27 M26 => r27 = none ∧ mKd M26 q2 = 104 ∧ vp_in v4 (mLn M26 q2) ∧ mKd M26 q24 = 4 ∧ ∀ M30, M30 = mSetR M26 104 q2 v4.toNatClampNeg (some q24) → ∀ x32, x32 = v4 + Int32.ofInt 1 → EX eL X_Rp_init 40 [some (.inr (some h0)), none, none, none, some (.inl x32)] [] M30 Q))) : EX eL X_Rp_init 40 [some (.inr (some h0)), none, none, none, some (.inl v4)] [] M Q := by
  refine ex_iload (pc := 40) d_Rp_init_40 rfl ?_
  refine ex_aload_n (pc := 42) d_Rp_init_42 rfl ?_
  obtain ⟨k1, h⟩ := h
  refine ex_getR (pc := 43) d_Rp_init_43 rfl rfl k1 ?_
  obtain ⟨q2, e3, h⟩ := h
  obtain ⟨k4, h⟩ := h
  refine ex_alen (pc := 46) d_Rp_init_46 e3 (me_100 k4 (by decide)) ?_
  refine ex_icmp_ge (tgt := 70) (pc := 47) d_Rp_init_47 (by decide) (fun g => ?_) (fun g => ?_)
  · replace h := h.1 g
    refine ex_aload_n (pc := 70) d_Rp_init_70 rfl ?_
    refine ex_aload_n (pc := 71) d_Rp_init_71 rfl ?_
    refine ex_getR (pc := 72) d_Rp_init_72 rfl rfl k1 ?_
    refine ex_alen (pc := 75) d_Rp_init_75 e3 (me_100 k4 (by decide)) ?_
    obtain ⟨n8, n9, h⟩ := h
    refine ex_newR (pc := 76) d_Rp_init_76 rfl (by decide) n8 n9 (fun k7 => ?_)
    replace h := h _ _ rfl rfl
    obtain ⟨k10, h⟩ := h
    refine ex_putR (pc := 79) d_Rp_init_79 rfl rfl k10 ?_
    replace h := h _ rfl
    refine ex_aload_n (pc := 82) d_Rp_init_82 rfl ?_
    refine ex_new (ci := 4) (n := 4) (pc := 83) d_Rp_init_83 rfl (fun k14 => ?_)
    replace h := h _ _ rfl rfl
    refine ex_dup (pc := 86) d_Rp_init_86 ?_
    refine ex_aload_n (pc := 87) d_Rp_init_87 rfl ?_
    obtain ⟨k15, h⟩ := h
    refine ex_getR (pc := 88) d_Rp_init_88 rfl rfl k15 ?_
    obtain ⟨q16, e17, h⟩ := h
    obtain ⟨k18, h⟩ := h
    refine ex_alen (pc := 91) d_Rp_init_91 e17 (me_100 k18 (by decide)) ?_
    refine ex_cVV (as := [_]) (st := [_, _]) (pc := 92) rfl rfl k14 rfl rfl rfl (Nat.le_of_ble_eq_true rfl) (EX.mono h fun r20 M19 h => ?_)
    obtain ⟨rfl, h⟩ := h
    refine ⟨rfl, ?_⟩
    obtain ⟨k21, h⟩ := h
    refine ex_putR (pc := 95) d_Rp_init_95 rfl rfl k21 ?_
    replace h := h _ rfl
    exact ex_ret_v (pc := 98) d_Rp_init_98 rfl h
  · replace h := h.2 g
    refine ex_aload_n (pc := 50) d_Rp_init_50 rfl ?_
    refine ex_getR (pc := 51) d_Rp_init_51 rfl rfl k1 ?_
    refine ex_iload (pc := 54) d_Rp_init_54 rfl ?_
    refine ex_new (ci := 3) (n := 6) (pc := 56) d_Rp_init_56 rfl (fun k25 => ?_)
    replace h := h _ _ rfl rfl
    refine ex_dup (pc := 59) d_Rp_init_59 ?_
    refine ex_cVV (as := []) (st := [_, _, _]) (pc := 60) rfl rfl k25 rfl rfl rfl (Nat.le_of_ble_eq_true rfl) (EX.mono h fun r27 M26 h => ?_)
    obtain ⟨rfl, h⟩ := h
    refine ⟨rfl, ?_⟩
    obtain ⟨k28, h⟩ := h
    obtain ⟨b29, h⟩ := h
    obtain ⟨k31, h⟩ := h
    refine ex_aast (pc := 63) d_Rp_init_63 e3 k28 (by decide) b29 rfl k31 ?_
    replace h := h _ rfl
    refine ex_iinc (ls2 := [_, _, _, _, _]) (pc := 64) d_Rp_init_64 rfl rfl ?_
    replace h := h _ rfl
    refine ex_goto (tgt := 40) (pc := 67) d_Rp_init_67 (by decide) ?_
    exact h
theorem sg_LM_init_0 {h0 : Nat} {v1 : Int32} {M : me_M} {Q : Option me_V → me_M → Prop} (h : ((4 ≤ v1) → mKd M h0 = 1 ∧ ∀ M2, M2 = mSetI M 1000 h0 0 5 → ∀ M3, M3 = mSetI M2 1001 h0 0 ((mI M2 1000 h0 0) / 2) → ∀ q5 M4, q5 = mSz M3 → M4 = mNew M3 2 0 3 → EX eL X_Net_init 0 [some (.inr (some q5))] [] M4 (fun r8 M7 => r8 = none ∧ mKd M7 h0 = 1 ∧ ∀ M10, M10 = mSetR M7 1002 h0 0 (some q5) → ¬ (mI M10 1000 h0 0) < 0 ∧ (mI M10 1000 h0 0).toNatClampNeg ≤ 100000 ∧ ∀ q12 M11, q12 = mSz M10 → M11 = mNew M10 103 (mI M10 1000 h0 0).toNatClampNeg (mI M10 1000 h0 0).toNatClampNeg → mKd M11 h0 = 1 ∧ ∀ M17, M17 = mSetR M11 1003 h0 0 (some q12) → EX eL X_LM_init 52 [some (.inr (some h0)), none, some (.inl 0)] [] M17 Q)) ∧ ((¬ 4 ≤ v1) → mKd M h0 = 1 ∧ ∀ M19, M19 = mSetI M 1000 h0 0 3 → ∀ M20, M20 = mSetI M19 1001 h0 0 ((mI M19 1000 h0 0) / 2) → ∀ q22 M21, q22 = mSz M20 → M21 = mNew M20 2 0 3 → EX eL X_Net_init 0 [some (.inr (some q22))] [] M21 (fun r25 M24 => r25 = none ∧ mKd M24 h0 = 1 ∧ ∀ M27, M27 = mSetR M24 1002 h0 0 (some q22) → ¬ (mI M27 1000 h0 0) < 0 ∧ (mI M27 1000 h0 0).toNatClampNeg ≤ 100000 ∧ ∀ q29 M28, q29 = mSz M27 → M28 = mNew M27 103 (mI M27 1000 h0 0).toNatClampNeg (mI M27 1000 h0 0).toNatClampNeg → mKd M28 h0 = 1 ∧ ∀ M34, M34 = mSetR M28 1003 h0 0 (some q29) → EX eL X_LM_init 52 [some (.inr (some h0)), none, some (.inl 0)] [] M34 Q))) : EX eL X_LM_init 0 [some (.inr (some h0)), some (.inl v1), none] [] M Q := by
  refine ex_aload_n (pc := 0) d_LM_init_0 rfl ?_
  refine ex_obj (pc := 1) d_LM_init_1 rfl (by decide) (Nat.le_of_ble_eq_true rfl) ?_
  refine ex_aload_n (pc := 4) d_LM_init_4 rfl ?_
  refine ex_iload_n (pc := 5) d_LM_init_5 rfl ?_
  refine ex_iconst (w := 4) (pc := 6) d_LM_init_6 (by decide) ?_
  refine ex_icmp_ge (tgt := 14) (pc := 7) d_LM_init_7 (by decide) (fun g => ?_) (fun g => ?_)
  · replace h := h.1 g
    refine ex_iconst (w := 5) (pc := 14) d_LM_init_14 (by decide) ?_
    obtain ⟨k1, h⟩ := h
    refine ex_putI (pc := 15) d_LM_init_15 rfl rfl k1 ?_
    replace h := h _ rfl
    refine ex_aload_n (pc := 18) d_LM_init_18 rfl ?_
    refine ex_aload_n (pc := 19) d_LM_init_19 rfl ?_
    refine ex_getI (pc := 20) d_LM_init_20 rfl rfl (by decide) k1 ?_
    refine ex_iconst (w := 2) (pc := 23) d_LM_init_23 (by decide) ?_
    refine ex_idiv (pc := 24) d_LM_init_24 (by decide) ?_
    refine ex_putI (pc := 25) d_LM_init_25 rfl rfl k1 ?_
    replace h := h _ rfl
    refine ex_aload_n (pc := 28) d_LM_init_28 rfl ?_
    refine ex_new (ci := 1) (n := 3) (pc := 29) d_LM_init_29 rfl (fun k6 => ?_)
    replace h := h _ _ rfl rfl
    refine ex_dup (pc := 32) d_LM_init_32 ?_
    refine ex_cVV (as := []) (st := [_, _]) (pc := 33) rfl rfl k6 rfl rfl rfl (Nat.le_of_ble_eq_true rfl) (EX.mono h fun r8 M7 h => ?_)
    obtain ⟨rfl, h⟩ := h
    refine ⟨rfl, ?_⟩
    obtain ⟨k9, h⟩ := h
    refine ex_putR (pc := 36) d_LM_init_36 rfl rfl k9 ?_
    replace h := h _ rfl
    refine ex_aload_n (pc := 39) d_LM_init_39 rfl ?_
    refine ex_aload_n (pc := 40) d_LM_init_40 rfl ?_
    refine ex_getI (pc := 41) d_LM_init_41 rfl rfl (by decide) k9 ?_
    obtain ⟨n14, n15, h⟩ := h
    refine ex_newR (pc := 44) d_LM_init_44 rfl (by decide) n14 n15 (fun k13 => ?_)
    replace h := h _ _ rfl rfl
    obtain ⟨k16, h⟩ := h
    refine ex_putR (pc := 47) d_LM_init_47 rfl rfl k16 ?_
    replace h := h _ rfl
    refine ex_iconst (w := 0) (pc := 50) d_LM_init_50 (by decide) ?_
    refine ex_istore_n (ls2 := [_, _, _]) (pc := 51) d_LM_init_51 (Nat.le_of_ble_eq_true rfl) rfl ?_
    refine ex_drop (k := 1) (ls2 := [_, _, _]) rfl ?_
    exact h
  · replace h := h.2 g
    refine ex_iconst (w := 3) (pc := 10) d_LM_init_10 (by decide) ?_
    refine ex_goto (tgt := 15) (pc := 11) d_LM_init_11 (by decide) ?_
    obtain ⟨k18, h⟩ := h
    refine ex_putI (pc := 15) d_LM_init_15 rfl rfl k18 ?_
    replace h := h _ rfl
    refine ex_aload_n (pc := 18) d_LM_init_18 rfl ?_
    refine ex_aload_n (pc := 19) d_LM_init_19 rfl ?_
    refine ex_getI (pc := 20) d_LM_init_20 rfl rfl (by decide) k18 ?_
    refine ex_iconst (w := 2) (pc := 23) d_LM_init_23 (by decide) ?_
    refine ex_idiv (pc := 24) d_LM_init_24 (by decide) ?_
    refine ex_putI (pc := 25) d_LM_init_25 rfl rfl k18 ?_
    replace h := h _ rfl
    refine ex_aload_n (pc := 28) d_LM_init_28 rfl ?_
    refine ex_new (ci := 1) (n := 3) (pc := 29) d_LM_init_29 rfl (fun k23 => ?_)
    replace h := h _ _ rfl rfl
    refine ex_dup (pc := 32) d_LM_init_32 ?_
    refine ex_cVV (as := []) (st := [_, _]) (pc := 33) rfl rfl k23 rfl rfl rfl (Nat.le_of_ble_eq_true rfl) (EX.mono h fun r25 M24 h => ?_)
    obtain ⟨rfl, h⟩ := h
    refine ⟨rfl, ?_⟩
    obtain ⟨k26, h⟩ := h
    refine ex_putR (pc := 36) d_LM_init_36 rfl rfl k26 ?_
    replace h := h _ rfl
    refine ex_aload_n (pc := 39) d_LM_init_39 rfl ?_
    refine ex_aload_n (pc := 40) d_LM_init_40 rfl ?_
    refine ex_getI (pc := 41) d_LM_init_41 rfl rfl (by decide) k26 ?_
    obtain ⟨n31, n32, h⟩ := h
    refine ex_newR (pc := 44) d_LM_init_44 rfl (by decide) n31 n32 (fun k30 => ?_)
    replace h := h _ _ rfl rfl
    obtain ⟨k33, h⟩ := h
    refine ex_putR (pc := 47) d_LM_init_47 rfl rfl k33 ?_
    replace h := h _ rfl
    refine ex_iconst (w := 0) (pc := 50) d_LM_init_50 (by decide) ?_
    refine ex_istore_n (ls2 := [_, _, _]) (pc := 51) d_LM_init_51 (Nat.le_of_ble_eq_true rfl) rfl ?_
    refine ex_drop (k := 1) (ls2 := [_, _, _]) rfl ?_
    exact h
theorem sg_LM_init_52 {h0 : Nat} {v2 : Int32} {M : me_M} {Q : Option me_V → me_M → Prop} (h : mKd M h0 = 1 ∧ (((mI M 1000 h0 0) ≤ v2) → Q none M) ∧ ((¬ (mI M 1000 h0 0) ≤ v2) → ∀ q3 M2, q3 = mSz M → M2 = mNew M 3 0 8 → mKd M2 h0 = 1 ∧ EX eL X_Rp_init 0 [some (.inr (some q3)), some (.inl v2), some (.inl (mI M2 1000 h0 0)), some (.inr (mR M2 1002 h0 0)), none] [] M2 (fun r7 M6 => r7 = none ∧ ∃ q8, (mR M 1003 h0 0) = some q8 ∧ mKd M6 q8 = 103 ∧ vp_in v2 (mLn M6 q8) ∧ mKd M6 q3 = 3 ∧ ∀ M12, M12 = mSetR M6 103 q8 v2.toNatClampNeg (some q3) → ∀ x14, x14 = v2 + Int32.ofInt 1 → EX eL X_LM_init 52 [some (.inr (some h0)), none, some (.inl x14)] [] M12 Q))) : EX eL X_LM_init 52 [some (.inr (some h0)), none, some (.inl v2)] [] M Q := by
  refine ex_iload_n (pc := 52) d_LM_init_52 rfl ?_
  refine ex_aload_n (pc := 53) d_LM_init_53 rfl ?_
  obtain ⟨k1, h⟩ := h
  refine ex_getI (pc := 54) d_LM_init_54 rfl rfl (by decide) k1 ?_
  refine ex_icmp_ge (tgt := 88) (pc := 57) d_LM_init_57 (by decide) (fun g => ?_) (fun g => ?_)
  · replace h := h.1 g
    exact ex_ret_v (pc := 88) d_LM_init_88 rfl h
  · replace h := h.2 g
    refine ex_aload_n (pc := 60) d_LM_init_60 rfl ?_
    refine ex_getR (pc := 61) d_LM_init_61 rfl rfl k1 ?_
    refine ex_iload_n (pc := 64) d_LM_init_64 rfl ?_
    refine ex_new (ci := 2) (n := 8) (pc := 65) d_LM_init_65 rfl (fun k4 => ?_)
    replace h := h _ _ rfl rfl
    refine ex_dup (pc := 68) d_LM_init_68 ?_
    refine ex_iload_n (pc := 69) d_LM_init_69 rfl ?_
    refine ex_aload_n (pc := 70) d_LM_init_70 rfl ?_
    obtain ⟨k5, h⟩ := h
    refine ex_getI (pc := 71) d_LM_init_71 rfl rfl (by decide) k5 ?_
    refine ex_aload_n (pc := 74) d_LM_init_74 rfl ?_
    refine ex_getR (pc := 75) d_LM_init_75 rfl rfl k5 ?_
    refine ex_cVV (as := [_, _, _]) (st := [_, _, _]) (pc := 78) rfl rfl k4 rfl rfl rfl (Nat.le_of_ble_eq_true rfl) (EX.mono h fun r7 M6 h => ?_)
    obtain ⟨rfl, h⟩ := h
    refine ⟨rfl, ?_⟩
    obtain ⟨q8, e9, h⟩ := h
    obtain ⟨k10, h⟩ := h
    obtain ⟨b11, h⟩ := h
    obtain ⟨k13, h⟩ := h
    refine ex_aast (pc := 81) d_LM_init_81 e9 k10 (by decide) b11 rfl k13 ?_
    replace h := h _ rfl
    refine ex_iinc (ls2 := [_, _, _]) (pc := 82) d_LM_init_82 rfl rfl ?_
    replace h := h _ rfl
    refine ex_goto (tgt := 52) (pc := 85) d_LM_init_85 (by decide) ?_
    exact h
theorem sg_LM_isReplica_0 {h0 : Nat} {v1 : Int32} {M : me_M} {Q : Option me_V → me_M → Prop} (h : ((v1 < 0) → Q (some (.inl 0)) M) ∧ ((¬ v1 < 0) → mKd M h0 = 1 ∧ (((mI M 1000 h0 0) ≤ v1) → Q (some (.inl 0)) M) ∧ ((¬ (mI M 1000 h0 0) ≤ v1) → Q (some (.inl 1)) M))) : EX eL X_LM_isReplica 0 [some (.inr (some h0)), some (.inl v1)] [] M Q := by
  refine ex_iload_n (pc := 0) d_LM_isReplica_0 rfl ?_
  refine ex_if_lt (tgt := 16) (pc := 1) d_LM_isReplica_1 (by decide) (fun g => ?_) (fun g => ?_)
  · replace h := h.1 g
    refine ex_iconst (w := 0) (pc := 16) d_LM_isReplica_16 (by decide) ?_
    exact ex_ret_z (pc := 17) d_LM_isReplica_17 rfl (Or.inl rfl) h
  · replace h := h.2 g
    refine ex_iload_n (pc := 4) d_LM_isReplica_4 rfl ?_
    refine ex_aload_n (pc := 5) d_LM_isReplica_5 rfl ?_
    obtain ⟨k1, h⟩ := h
    refine ex_getI (pc := 6) d_LM_isReplica_6 rfl rfl (by decide) k1 ?_
    refine ex_icmp_ge (tgt := 16) (pc := 9) d_LM_isReplica_9 (by decide) (fun g => ?_) (fun g => ?_)
    · replace h := h.1 g
      refine ex_iconst (w := 0) (pc := 16) d_LM_isReplica_16 (by decide) ?_
      exact ex_ret_z (pc := 17) d_LM_isReplica_17 rfl (Or.inl rfl) h
    · replace h := h.2 g
      refine ex_iconst (w := 1) (pc := 12) d_LM_isReplica_12 (by decide) ?_
      refine ex_goto (tgt := 17) (pc := 13) d_LM_isReplica_13 (by decide) ?_
      exact ex_ret_z (pc := 17) d_LM_isReplica_17 rfl (Or.inr rfl) h
theorem sg_LM_workingReplica_0 {h0 : Nat} {v1 : Int32} {M : me_M} {Q : Option me_V → me_M → Prop} (h : mKd M h0 = 1 ∧ EX eL X_LM_isReplica 0 [some (.inr (some h0)), some (.inl v1)] [] M (fun r3 M2 => ∃ x4, r3 = some (.inl x4) ∧ ((x4 = 0) → Q (some (.inr none)) M2) ∧ ((¬ x4 = 0) → mKd M2 h0 = 1 ∧ ∃ q6, (mR M2 1003 h0 0) = some q6 ∧ mKd M2 q6 = 103 ∧ vp_in v1 (mLn M2 q6) ∧ ∃ q10, (mR M2 103 q6 v1.toNatClampNeg) = some q10 ∧ mKd M2 q10 = 3 ∧ ((¬ (mI M2 1135 q10 0) = 0) → Q (some (.inr none)) M2) ∧ (((mI M2 1135 q10 0) = 0) → vp_in v1 (mLn M2 q6) ∧ Q (some (.inr (mR M2 103 q6 v1.toNatClampNeg))) M2)))) : EX eL X_LM_workingReplica 0 [some (.inr (some h0)), some (.inl v1)] [] M Q := by
  refine ex_aload_n (pc := 0) d_LM_workingReplica_0 rfl ?_
  refine ex_iload_n (pc := 1) d_LM_workingReplica_1 rfl ?_
  obtain ⟨k1, h⟩ := h
  refine ex_cVI (as := [_]) (st := []) (pc := 2) rfl rfl k1 rfl rfl rfl (Nat.le_of_ble_eq_true rfl) (EX.mono h fun r3 M2 h => ?_)
  obtain ⟨x4, rfl, h⟩ := h
  refine ⟨_, rfl, ?_⟩
  refine ex_if_eq (tgt := 29) (pc := 5) d_LM_workingReplica_5 (by decide) (fun g => ?_) (fun g => ?_)
  · replace h := h.1 g
    refine ex_null (pc := 29) d_LM_workingReplica_29 ?_
    exact ex_ret_a (pc := 30) d_LM_workingReplica_30 rfl h
  · replace h := h.2 g
    refine ex_aload_n (pc := 8) d_LM_workingReplica_8 rfl ?_
    obtain ⟨k5, h⟩ := h
    refine ex_getR (pc := 9) d_LM_workingReplica_9 rfl rfl k5 ?_
    refine ex_iload_n (pc := 12) d_LM_workingReplica_12 rfl ?_
    obtain ⟨q6, e7, h⟩ := h
    obtain ⟨k8, h⟩ := h
    obtain ⟨b9, h⟩ := h
    refine ex_aald (pc := 13) d_LM_workingReplica_13 e7 k8 (by decide) b9 ?_
    obtain ⟨q10, e11, h⟩ := h
    obtain ⟨k12, h⟩ := h
    refine ex_getI (pc := 14) d_LM_workingReplica_14 e11 rfl (by decide) k12 ?_
    refine ex_if_ne (tgt := 29) (pc := 17) d_LM_workingReplica_17 (by decide) (fun g => ?_) (fun g => ?_)
    · replace h := h.1 g
      refine ex_null (pc := 29) d_LM_workingReplica_29 ?_
      exact ex_ret_a (pc := 30) d_LM_workingReplica_30 rfl h
    · replace h := h.2 g
      refine ex_aload_n (pc := 20) d_LM_workingReplica_20 rfl ?_
      refine ex_getR (pc := 21) d_LM_workingReplica_21 rfl rfl k5 ?_
      refine ex_iload_n (pc := 24) d_LM_workingReplica_24 rfl ?_
      obtain ⟨b13, h⟩ := h
      refine ex_aald (pc := 25) d_LM_workingReplica_25 e7 k8 (by decide) b13 ?_
      refine ex_goto (tgt := 30) (pc := 26) d_LM_workingReplica_26 (by decide) ?_
      exact ex_ret_a (pc := 30) d_LM_workingReplica_30 rfl h
theorem sg_LM_isKey_0 {h0 : Nat} {v1 : Int32} {M : me_M} {Q : Option me_V → me_M → Prop} (h : ((v1 < 0) → Q (some (.inl 0)) M) ∧ ((¬ v1 < 0) → ((4 ≤ v1) → Q (some (.inl 0)) M) ∧ ((¬ 4 ≤ v1) → Q (some (.inl 1)) M))) : EX eL X_LM_isKey 0 [some (.inr (some h0)), some (.inl v1)] [] M Q := by
  refine ex_iload_n (pc := 0) d_LM_isKey_0 rfl ?_
  refine ex_if_lt (tgt := 13) (pc := 1) d_LM_isKey_1 (by decide) (fun g => ?_) (fun g => ?_)
  · replace h := h.1 g
    refine ex_iconst (w := 0) (pc := 13) d_LM_isKey_13 (by decide) ?_
    exact ex_ret_z (pc := 14) d_LM_isKey_14 rfl (Or.inl rfl) h
  · replace h := h.2 g
    refine ex_iload_n (pc := 4) d_LM_isKey_4 rfl ?_
    refine ex_iconst (w := 4) (pc := 5) d_LM_isKey_5 (by decide) ?_
    refine ex_icmp_ge (tgt := 13) (pc := 6) d_LM_isKey_6 (by decide) (fun g => ?_) (fun g => ?_)
    · replace h := h.1 g
      refine ex_iconst (w := 0) (pc := 13) d_LM_isKey_13 (by decide) ?_
      exact ex_ret_z (pc := 14) d_LM_isKey_14 rfl (Or.inl rfl) h
    · replace h := h.2 g
      refine ex_iconst (w := 1) (pc := 9) d_LM_isKey_9 (by decide) ?_
      refine ex_goto (tgt := 14) (pc := 10) d_LM_isKey_10 (by decide) ?_
      exact ex_ret_z (pc := 14) d_LM_isKey_14 rfl (Or.inr rfl) h
theorem sg_Rp_freeInstance_0 {h0 : Nat} {M : me_M} {Q : Option me_V → me_M → Prop} (h : mKd M h0 = 3 ∧ ∀ x2, x2 = (6 * (mI M 1128 h0 0)) → EX eL X_Rp_freeInstance 10 [some (.inr (some h0)), some (.inl x2), some (.inl x2)] [] M Q) : EX eL X_Rp_freeInstance 0 [some (.inr (some h0)), none, none] [] M Q := by
  refine ex_bipush (w := 6) (pc := 0) d_Rp_freeInstance_0 (by decide) ?_
  refine ex_aload_n (pc := 2) d_Rp_freeInstance_2 rfl ?_
  obtain ⟨k1, h⟩ := h
  refine ex_getI (pc := 3) d_Rp_freeInstance_3 rfl rfl (by decide) k1 ?_
  refine ex_imul (pc := 6) d_Rp_freeInstance_6 ?_
  refine ex_istore_n (ls2 := [_, _, _]) (pc := 7) d_Rp_freeInstance_7 (Nat.le_of_ble_eq_true rfl) rfl ?_
  replace h := h _ rfl
  refine ex_iload_n (pc := 8) d_Rp_freeInstance_8 rfl ?_
  refine ex_istore_n (ls2 := [_, _, _]) (pc := 9) d_Rp_freeInstance_9 (Nat.le_of_ble_eq_true rfl) rfl ?_
  exact h
theorem sg_Rp_freeInstance_10 {h0 : Nat} {v1 : Int32} {v2 : Int32} {M : me_M} {Q : Option me_V → me_M → Prop} (h : (((v1 + 6) ≤ v2) → Q (some (.inl (-1 : Int32))) M) ∧ ((¬ (v1 + 6) ≤ v2) → mKd M h0 = 3 ∧ ∃ q2, (mR M 1132 h0 0) = some q2 ∧ mKd M q2 = 104 ∧ vp_in v2 (mLn M q2) ∧ ∃ q6, (mR M 104 q2 v2.toNatClampNeg) = some q6 ∧ mKd M q6 = 4 ∧ ((¬ (mI M 1192 q6 0) = 0) → ∀ x9, x9 = v2 + Int32.ofInt 1 → EX eL X_Rp_freeInstance 10 [some (.inr (some h0)), some (.inl v1), some (.inl x9)] [] M Q) ∧ (((mI M 1192 q6 0) = 0) → vp_in v2 (mLn M q2) ∧ ((¬ (mI M 1194 q6 0) = 0) → ∀ x11, x11 = v2 + Int32.ofInt 1 → EX eL X_Rp_freeInstance 10 [some (.inr (some h0)), some (.inl v1), some (.inl x11)] [] M Q) ∧ (((mI M 1194 q6 0) = 0) → Q (some (.inl v2)) M)))) : EX eL X_Rp_freeInstance 10 [some (.inr (some h0)), some (.inl v1), some (.inl v2)] [] M Q := by
  refine ex_iload_n (pc := 10) d_Rp_freeInstance_10 rfl ?_
  refine ex_iload_n (pc := 11) d_Rp_freeInstance_11 rfl ?_
  refine ex_bipush (w := 6) (pc := 12) d_Rp_freeInstance_12 (by decide) ?_
  refine ex_iadd (pc := 14) d_Rp_freeInstance_14 ?_
  refine ex_icmp_ge (tgt := 50) (pc := 15) d_Rp_freeInstance_15 (by decide) (fun g => ?_) (fun g => ?_)
  · replace h := h.1 g
    refine ex_iconst (w := (-1 : Int32)) (pc := 50) d_Rp_freeInstance_50 (by decide) ?_
    exact ex_ret_i (pc := 51) d_Rp_freeInstance_51 rfl h
  · replace h := h.2 g
    refine ex_aload_n (pc := 18) d_Rp_freeInstance_18 rfl ?_
    obtain ⟨k1, h⟩ := h
    refine ex_getR (pc := 19) d_Rp_freeInstance_19 rfl rfl k1 ?_
    refine ex_iload_n (pc := 22) d_Rp_freeInstance_22 rfl ?_
    obtain ⟨q2, e3, h⟩ := h
    obtain ⟨k4, h⟩ := h
    obtain ⟨b5, h⟩ := h
    refine ex_aald (pc := 23) d_Rp_freeInstance_23 e3 k4 (by decide) b5 ?_
    obtain ⟨q6, e7, h⟩ := h
    obtain ⟨k8, h⟩ := h
    refine ex_getI (pc := 24) d_Rp_freeInstance_24 e7 rfl (by decide) k8 ?_
    refine ex_if_ne (tgt := 44) (pc := 27) d_Rp_freeInstance_27 (by decide) (fun g => ?_) (fun g => ?_)
    · replace h := h.1 g
      refine ex_iinc (ls2 := [_, _, _]) (pc := 44) d_Rp_freeInstance_44 rfl rfl ?_
      replace h := h _ rfl
      refine ex_goto (tgt := 10) (pc := 47) d_Rp_freeInstance_47 (by decide) ?_
      exact h
    · replace h := h.2 g
      refine ex_aload_n (pc := 30) d_Rp_freeInstance_30 rfl ?_
      refine ex_getR (pc := 31) d_Rp_freeInstance_31 rfl rfl k1 ?_
      refine ex_iload_n (pc := 34) d_Rp_freeInstance_34 rfl ?_
      obtain ⟨b10, h⟩ := h
      refine ex_aald (pc := 35) d_Rp_freeInstance_35 e3 k4 (by decide) b10 ?_
      refine ex_getI (pc := 36) d_Rp_freeInstance_36 e7 rfl (by decide) k8 ?_
      refine ex_if_ne (tgt := 44) (pc := 39) d_Rp_freeInstance_39 (by decide) (fun g => ?_) (fun g => ?_)
      · replace h := h.1 g
        refine ex_iinc (ls2 := [_, _, _]) (pc := 44) d_Rp_freeInstance_44 rfl rfl ?_
        replace h := h _ rfl
        refine ex_goto (tgt := 10) (pc := 47) d_Rp_freeInstance_47 (by decide) ?_
        exact h
      · replace h := h.2 g
        refine ex_iload_n (pc := 42) d_Rp_freeInstance_42 rfl ?_
        exact ex_ret_i (pc := 43) d_Rp_freeInstance_43 rfl h
theorem sg_Cmd_init_0 {h0 : Nat} {v1 : Int32} {v2 : Int32} {v3 : Int32} {M : me_M} {Q : Option me_V → me_M → Prop} (h : mKd M h0 = 7 ∧ ∀ M2, M2 = mSetI M 1384 h0 0 v1 → ∀ M3, M3 = mSetI M2 1385 h0 0 v2 → ∀ M4, M4 = mSetI M3 1386 h0 0 v3 → Q none M4) : EX eL X_Cmd_init 0 [some (.inr (some h0)), some (.inl v1), some (.inl v2), some (.inl v3)] [] M Q := by
  refine ex_aload_n (pc := 0) d_Cmd_init_0 rfl ?_
  refine ex_obj (pc := 1) d_Cmd_init_1 rfl (by decide) (Nat.le_of_ble_eq_true rfl) ?_
  refine ex_aload_n (pc := 4) d_Cmd_init_4 rfl ?_
  refine ex_iload_n (pc := 5) d_Cmd_init_5 rfl ?_
  obtain ⟨k1, h⟩ := h
  refine ex_putI (pc := 6) d_Cmd_init_6 rfl rfl k1 ?_
  replace h := h _ rfl
  refine ex_aload_n (pc := 9) d_Cmd_init_9 rfl ?_
  refine ex_iload_n (pc := 10) d_Cmd_init_10 rfl ?_
  refine ex_putI (pc := 11) d_Cmd_init_11 rfl rfl k1 ?_
  replace h := h _ rfl
  refine ex_aload_n (pc := 14) d_Cmd_init_14 rfl ?_
  refine ex_iload_n (pc := 15) d_Cmd_init_15 rfl ?_
  refine ex_putI (pc := 16) d_Cmd_init_16 rfl rfl k1 ?_
  replace h := h _ rfl
  exact ex_ret_v (pc := 19) d_Cmd_init_19 rfl h
theorem sg_Or_init_0 {h0 : Nat} {a1 : Option Nat} {v2 : Int32} {v3 : Int32} {M : me_M} {Q : Option me_V → me_M → Prop} (h : mKd M h0 = 8 ∧ ∀ M2, M2 = mSetR M 1448 h0 0 a1 → ∀ M3, M3 = mSetI M2 1449 h0 0 v2 → ∀ M4, M4 = mSetI M3 1450 h0 0 v3 → Q none M4) : EX eL X_Or_init 0 [some (.inr (some h0)), some (.inr a1), some (.inl v2), some (.inl v3)] [] M Q := by
  refine ex_aload_n (pc := 0) d_Or_init_0 rfl ?_
  refine ex_obj (pc := 1) d_Or_init_1 rfl (by decide) (Nat.le_of_ble_eq_true rfl) ?_
  refine ex_aload_n (pc := 4) d_Or_init_4 rfl ?_
  refine ex_aload_n (pc := 5) d_Or_init_5 rfl ?_
  obtain ⟨k1, h⟩ := h
  refine ex_putR (pc := 6) d_Or_init_6 rfl rfl k1 ?_
  replace h := h _ rfl
  refine ex_aload_n (pc := 9) d_Or_init_9 rfl ?_
  refine ex_iload_n (pc := 10) d_Or_init_10 rfl ?_
  refine ex_putI (pc := 11) d_Or_init_11 rfl rfl k1 ?_
  replace h := h _ rfl
  refine ex_aload_n (pc := 14) d_Or_init_14 rfl ?_
  refine ex_iload_n (pc := 15) d_Or_init_15 rfl ?_
  refine ex_putI (pc := 16) d_Or_init_16 rfl rfl k1 ?_
  replace h := h _ rfl
  exact ex_ret_v (pc := 19) d_Or_init_19 rfl h
theorem sg_Cmd_interferesWith_0 {h0 : Nat} {a1 : Option Nat} {M : me_M} {Q : Option me_V → me_M → Prop} (h : mKd M h0 = 7 ∧ (((mI M 1384 h0 0) = 2) → Q (some (.inl 1)) M) ∧ ((¬ (mI M 1384 h0 0) = 2) → ∃ q2, a1 = some q2 ∧ mKd M q2 = 7 ∧ ((¬ (mI M 1384 q2 0) = 2) → ((¬ (mI M 1385 h0 0) = (mI M 1385 q2 0)) → Q (some (.inl 0)) M) ∧ (((mI M 1385 h0 0) = (mI M 1385 q2 0)) → (((mI M 1384 h0 0) = 1) → Q (some (.inl 1)) M) ∧ ((¬ (mI M 1384 h0 0) = 1) → ((¬ (mI M 1384 q2 0) = 1) → Q (some (.inl 0)) M) ∧ (((mI M 1384 q2 0) = 1) → Q (some (.inl 1)) M)))) ∧ (((mI M 1384 q2 0) = 2) → Q (some (.inl 1)) M))) : EX eL X_Cmd_interferesWith 0 [some (.inr (some h0)), some (.inr a1)] [] M Q := by
  refine ex_aload_n (pc := 0) d_Cmd_interferesWith_0 rfl ?_
  obtain ⟨k1, h⟩ := h
  refine ex_getI (pc := 1) d_Cmd_interferesWith_1 rfl rfl (by decide) k1 ?_
  refine ex_iconst (w := 2) (pc := 4) d_Cmd_interferesWith_4 (by decide) ?_
  refine ex_icmp_eq (tgt := 16) (pc := 5) d_Cmd_interferesWith_5 (by decide) (fun g => ?_) (fun g => ?_)
  · replace h := h.1 g
    refine ex_iconst (w := 1) (pc := 16) d_Cmd_interferesWith_16 (by decide) ?_
    exact ex_ret_z (pc := 17) d_Cmd_interferesWith_17 rfl (Or.inr rfl) h
  · replace h := h.2 g
    refine ex_aload_n (pc := 8) d_Cmd_interferesWith_8 rfl ?_
    obtain ⟨q2, e3, h⟩ := h
    obtain ⟨k4, h⟩ := h
    refine ex_getI (pc := 9) d_Cmd_interferesWith_9 e3 rfl (by decide) k4 ?_
    refine ex_iconst (w := 2) (pc := 12) d_Cmd_interferesWith_12 (by decide) ?_
    refine ex_icmp_ne (tgt := 18) (pc := 13) d_Cmd_interferesWith_13 (by decide) (fun g => ?_) (fun g => ?_)
    · replace h := h.1 g
      refine ex_aload_n (pc := 18) d_Cmd_interferesWith_18 rfl ?_
      refine ex_getI (pc := 19) d_Cmd_interferesWith_19 rfl rfl (by decide) k1 ?_
      refine ex_aload_n (pc := 22) d_Cmd_interferesWith_22 rfl ?_
      refine ex_getI (pc := 23) d_Cmd_interferesWith_23 e3 rfl (by decide) k4 ?_
      refine ex_icmp_ne (tgt := 49) (pc := 26) d_Cmd_interferesWith_26 (by decide) (fun g => ?_) (fun g => ?_)
      · replace h := h.1 g
        refine ex_iconst (w := 0) (pc := 49) d_Cmd_interferesWith_49 (by decide) ?_
        exact ex_ret_z (pc := 50) d_Cmd_interferesWith_50 rfl (Or.inl rfl) h
      · replace h := h.2 g
        refine ex_aload_n (pc := 29) d_Cmd_interferesWith_29 rfl ?_
        refine ex_getI (pc := 30) d_Cmd_interferesWith_30 rfl rfl (by decide) k1 ?_
        refine ex_iconst (w := 1) (pc := 33) d_Cmd_interferesWith_33 (by decide) ?_
        refine ex_icmp_eq (tgt := 45) (pc := 34) d_Cmd_interferesWith_34 (by decide) (fun g => ?_) (fun g => ?_)
        · replace h := h.1 g
          refine ex_iconst (w := 1) (pc := 45) d_Cmd_interferesWith_45 (by decide) ?_
          refine ex_goto (tgt := 50) (pc := 46) d_Cmd_interferesWith_46 (by decide) ?_
          exact ex_ret_z (pc := 50) d_Cmd_interferesWith_50 rfl (Or.inr rfl) h
        · replace h := h.2 g
          refine ex_aload_n (pc := 37) d_Cmd_interferesWith_37 rfl ?_
          refine ex_getI (pc := 38) d_Cmd_interferesWith_38 e3 rfl (by decide) k4 ?_
          refine ex_iconst (w := 1) (pc := 41) d_Cmd_interferesWith_41 (by decide) ?_
          refine ex_icmp_ne (tgt := 49) (pc := 42) d_Cmd_interferesWith_42 (by decide) (fun g => ?_) (fun g => ?_)
          · replace h := h.1 g
            refine ex_iconst (w := 0) (pc := 49) d_Cmd_interferesWith_49 (by decide) ?_
            exact ex_ret_z (pc := 50) d_Cmd_interferesWith_50 rfl (Or.inl rfl) h
          · replace h := h.2 g
            refine ex_iconst (w := 1) (pc := 45) d_Cmd_interferesWith_45 (by decide) ?_
            refine ex_goto (tgt := 50) (pc := 46) d_Cmd_interferesWith_46 (by decide) ?_
            exact ex_ret_z (pc := 50) d_Cmd_interferesWith_50 rfl (Or.inr rfl) h
    · replace h := h.2 g
      refine ex_iconst (w := 1) (pc := 16) d_Cmd_interferesWith_16 (by decide) ?_
      exact ex_ret_z (pc := 17) d_Cmd_interferesWith_17 rfl (Or.inr rfl) h
theorem sg_Rp_fitted_0 {h0 : Nat} {v1 : Int32} {a2 : Option Nat} {M : me_M} {Q : Option me_V → me_M → Prop} (h : ∃ q1, a2 = some q1 ∧ mKd M q1 = 8 ∧ ∀ x4, x4 = (mI M 1449 q1 0) → ∀ x5, x5 = (mI M 1450 q1 0) → EX eL X_Rp_fitted 14 [some (.inr (some h0)), some (.inl v1), some (.inr a2), some (.inl x4), some (.inl x5), some (.inl 0), none] [] M Q) : EX eL X_Rp_fitted 0 [some (.inr (some h0)), some (.inl v1), some (.inr a2), none, none, none, none] [] M Q := by
  refine ex_aload_n (pc := 0) d_Rp_fitted_0 rfl ?_
  obtain ⟨q1, e2, h⟩ := h
  obtain ⟨k3, h⟩ := h
  refine ex_getI (pc := 1) d_Rp_fitted_1 e2 rfl (by decide) k3 ?_
  refine ex_istore_n (ls2 := [_, _, _, _, _, _, _]) (pc := 4) d_Rp_fitted_4 (Nat.le_of_ble_eq_true rfl) rfl ?_
  replace h := h _ rfl
  refine ex_aload_n (pc := 5) d_Rp_fitted_5 rfl ?_
  refine ex_getI (pc := 6) d_Rp_fitted_6 e2 rfl (by decide) k3 ?_
  refine ex_istore (ls2 := [_, _, _, _, _, _, _]) (pc := 9) d_Rp_fitted_9 (Nat.le_of_ble_eq_true rfl) rfl ?_
  replace h := h _ rfl
  refine ex_iconst (w := 0) (pc := 11) d_Rp_fitted_11 (by decide) ?_
  refine ex_istore (ls2 := [_, _, _, _, _, _, _]) (pc := 12) d_Rp_fitted_12 (Nat.le_of_ble_eq_true rfl) rfl ?_
  exact h
theorem sg_Rp_fitted_14 {h0 : Nat} {v1 : Int32} {a2 : Option Nat} {v3 : Int32} {v4 : Int32} {v5 : Int32} {M : me_M} {Q : Option me_V → me_M → Prop} (h : mKd M h0 = 3 ∧ ∃ q2, (mR M 1132 h0 0) = some q2 ∧ mKd M q2 = 104 ∧ (((Int32.ofNat (mLn M q2)) ≤ v5) → ∀ q6 M5, q6 = mSz M → M5 = mNew M 8 0 3 → ∃ q8, a2 = some q8 ∧ mKd M5 q8 = 8 ∧ EX eL X_Or_init 0 [some (.inr (some q6)), some (.inr (mR M5 1448 q8 0)), some (.inl v3), some (.inl v4)] [] M5 (fun r12 M11 => r12 = none ∧ Q (some (.inr (some q6))) M11)) ∧ ((¬ (Int32.ofNat (mLn M q2)) ≤ v5) → vp_in v5 (mLn M q2) ∧ ∃ q14, (mR M 104 q2 v5.toNatClampNeg) = some q14 ∧ mKd M q14 = 4 ∧ ((v5 = v1) → ∀ x17, x17 = v5 + Int32.ofInt 1 → EX eL X_Rp_fitted 14 [some (.inr (some h0)), some (.inl v1), some (.inr a2), some (.inl v3), some (.inl v4), some (.inl x17), none] [] M Q) ∧ ((¬ v5 = v1) → (((mR M 1193 q14 0) = none) → ∀ x18, x18 = v5 + Int32.ofInt 1 → EX eL X_Rp_fitted 14 [some (.inr (some h0)), some (.inl v1), some (.inr a2), some (.inl v3), some (.inl v4), some (.inl x18), none] [] M Q) ∧ ((¬ (mR M 1193 q14 0) = none) → ∃ q19, (mR M 1193 q14 0) = some q19 ∧ mKd M q19 = 8 ∧ ∃ q22, a2 = some q22 ∧ mKd M q22 = 8 ∧ ∃ q25, (mR M 1448 q19 0) = some q25 ∧ mKd M q25 = 7 ∧ EX eL X_Cmd_interferesWith 0 [some (.inr (some q25)), some (.inr (mR M 1448 q22 0))] [] M (fun r29 M28 => ∃ x30, r29 = some (.inl x30) ∧ ((x30 = 0) → ∀ x31, x31 = v5 + Int32.ofInt 1 → EX eL X_Rp_fitted 14 [some (.inr (some h0)), some (.inl v1), some (.inr a2), some (.inl v3), some (.inl v4), some (.inl x31), none] [] M28 Q) ∧ ((¬ x30 = 0) → mKd M28 q19 = 8 ∧ ∀ x33, x33 = (me_max v3 ((mI M28 1449 q19 0) + 1)) → ∀ x34, x34 = (v4 ||| (1 <<< (v5 &&& 31))) → ∀ x35, x35 = v5 + Int32.ofInt 1 → EX eL X_Rp_fitted 14 [some (.inr (some h0)), some (.inl v1), some (.inr a2), some (.inl x33), some (.inl x34), some (.inl x35), none] [] M28 Q)))))) : EX eL X_Rp_fitted 14 [some (.inr (some h0)), some (.inl v1), some (.inr a2), some (.inl v3), some (.inl v4), some (.inl v5), none] [] M Q := by
  refine ex_iload (pc := 14) d_Rp_fitted_14 rfl ?_
  refine ex_aload_n (pc := 16) d_Rp_fitted_16 rfl ?_
  obtain ⟨k1, h⟩ := h
  refine ex_getR (pc := 17) d_Rp_fitted_17 rfl rfl k1 ?_
  obtain ⟨q2, e3, h⟩ := h
  obtain ⟨k4, h⟩ := h
  refine ex_alen (pc := 20) d_Rp_fitted_20 e3 (me_100 k4 (by decide)) ?_
  refine ex_icmp_ge (tgt := 89) (pc := 21) d_Rp_fitted_21 (by decide) (fun g => ?_) (fun g => ?_)
  · replace h := h.1 g
    refine ex_new (ci := 7) (n := 3) (pc := 89) d_Rp_fitted_89 rfl (fun k7 => ?_)
    replace h := h _ _ rfl rfl
    refine ex_dup (pc := 92) d_Rp_fitted_92 ?_
    refine ex_aload_n (pc := 93) d_Rp_fitted_93 rfl ?_
    obtain ⟨q8, e9, h⟩ := h
    obtain ⟨k10, h⟩ := h
    refine ex_getR (pc := 94) d_Rp_fitted_94 e9 rfl k10 ?_
    refine ex_iload_n (pc := 97) d_Rp_fitted_97 rfl ?_
    refine ex_iload (pc := 98) d_Rp_fitted_98 rfl ?_
    refine ex_cVV (as := [_, _, _]) (st := [_]) (pc := 100) rfl rfl k7 rfl rfl rfl (Nat.le_of_ble_eq_true rfl) (EX.mono h fun r12 M11 h => ?_)
    obtain ⟨rfl, h⟩ := h
    refine ⟨rfl, ?_⟩
    exact ex_ret_a (pc := 103) d_Rp_fitted_103 rfl h
  · replace h := h.2 g
    refine ex_aload_n (pc := 24) d_Rp_fitted_24 rfl ?_
    refine ex_getR (pc := 25) d_Rp_fitted_25 rfl rfl k1 ?_
    refine ex_iload (pc := 28) d_Rp_fitted_28 rfl ?_
    obtain ⟨b13, h⟩ := h
    refine ex_aald (pc := 30) d_Rp_fitted_30 e3 k4 (by decide) b13 ?_
    obtain ⟨q14, e15, h⟩ := h
    obtain ⟨k16, h⟩ := h
    refine ex_getR (pc := 31) d_Rp_fitted_31 e15 rfl k16 ?_
    refine ex_astore (ls2 := [_, _, _, _, _, _, _]) (pc := 34) d_Rp_fitted_34 (Nat.le_of_ble_eq_true rfl) rfl ?_
    refine ex_iload (pc := 36) d_Rp_fitted_36 rfl ?_
    refine ex_iload_n (pc := 38) d_Rp_fitted_38 rfl ?_
    refine ex_icmp_eq (tgt := 83) (pc := 39) d_Rp_fitted_39 (by decide) (fun g => ?_) (fun g => ?_)
    · replace h := h.1 g
      refine ex_iinc (ls2 := [_, _, _, _, _, _, _]) (pc := 83) d_Rp_fitted_83 rfl rfl ?_
      replace h := h _ rfl
      refine ex_goto (tgt := 14) (pc := 86) d_Rp_fitted_86 (by decide) ?_
      refine ex_drop (k := 6) (ls2 := [_, _, _, _, _, _, _]) rfl ?_
      exact h
    · replace h := h.2 g
      refine ex_aload (pc := 42) d_Rp_fitted_42 rfl ?_
      refine ex_ifnull (tgt := 83) (pc := 44) d_Rp_fitted_44 (by decide) (fun g => ?_) (fun g => ?_)
      · replace h := h.1 g
        refine ex_iinc (ls2 := [_, _, _, _, _, _, _]) (pc := 83) d_Rp_fitted_83 rfl rfl ?_
        replace h := h _ rfl
        refine ex_goto (tgt := 14) (pc := 86) d_Rp_fitted_86 (by decide) ?_
        refine ex_drop (k := 6) (ls2 := [_, _, _, _, _, _, _]) rfl ?_
        exact h
      · replace h := h.2 g
        refine ex_aload (pc := 47) d_Rp_fitted_47 rfl ?_
        obtain ⟨q19, e20, h⟩ := h
        obtain ⟨k21, h⟩ := h
        refine ex_getR (pc := 49) d_Rp_fitted_49 e20 rfl k21 ?_
        refine ex_aload_n (pc := 52) d_Rp_fitted_52 rfl ?_
        obtain ⟨q22, e23, h⟩ := h
        obtain ⟨k24, h⟩ := h
        refine ex_getR (pc := 53) d_Rp_fitted_53 e23 rfl k24 ?_
        obtain ⟨q25, e26, h⟩ := h
        obtain ⟨k27, h⟩ := h
        refine ex_cVI (as := [_]) (st := []) (pc := 56) e26 rfl k27 rfl rfl rfl (Nat.le_of_ble_eq_true rfl) (EX.mono h fun r29 M28 h => ?_)
        obtain ⟨x30, rfl, h⟩ := h
        refine ⟨_, rfl, ?_⟩
        refine ex_if_eq (tgt := 83) (pc := 59) d_Rp_fitted_59 (by decide) (fun g => ?_) (fun g => ?_)
        · replace h := h.1 g
          refine ex_iinc (ls2 := [_, _, _, _, _, _, _]) (pc := 83) d_Rp_fitted_83 rfl rfl ?_
          replace h := h _ rfl
          refine ex_goto (tgt := 14) (pc := 86) d_Rp_fitted_86 (by decide) ?_
          refine ex_drop (k := 6) (ls2 := [_, _, _, _, _, _, _]) rfl ?_
          exact h
        · replace h := h.2 g
          refine ex_iload_n (pc := 62) d_Rp_fitted_62 rfl ?_
          refine ex_aload (pc := 63) d_Rp_fitted_63 rfl ?_
          obtain ⟨k32, h⟩ := h
          refine ex_getI (pc := 65) d_Rp_fitted_65 e20 rfl (by decide) k32 ?_
          refine ex_iconst (w := 1) (pc := 68) d_Rp_fitted_68 (by decide) ?_
          refine ex_iadd (pc := 69) d_Rp_fitted_69 ?_
          refine ex_max (pc := 70) rfl (Nat.le_of_ble_eq_true rfl) ?_
          refine ex_istore_n (ls2 := [_, _, _, _, _, _, _]) (pc := 73) d_Rp_fitted_73 (Nat.le_of_ble_eq_true rfl) rfl ?_
          replace h := h _ rfl
          refine ex_iload (pc := 74) d_Rp_fitted_74 rfl ?_
          refine ex_iconst (w := 1) (pc := 76) d_Rp_fitted_76 (by decide) ?_
          refine ex_iload (pc := 77) d_Rp_fitted_77 rfl ?_
          refine ex_ishl (pc := 79) d_Rp_fitted_79 ?_
          refine ex_ior (pc := 80) d_Rp_fitted_80 ?_
          refine ex_istore (ls2 := [_, _, _, _, _, _, _]) (pc := 81) d_Rp_fitted_81 (Nat.le_of_ble_eq_true rfl) rfl ?_
          replace h := h _ rfl
          refine ex_iinc (ls2 := [_, _, _, _, _, _, _]) (pc := 83) d_Rp_fitted_83 rfl rfl ?_
          replace h := h _ rfl
          refine ex_goto (tgt := 14) (pc := 86) d_Rp_fitted_86 (by decide) ?_
          refine ex_drop (k := 6) (ls2 := [_, _, _, _, _, _, _]) rfl ?_
          exact h
theorem sg_En_become_0 {h0 : Nat} {v1 : Int32} {a2 : Option Nat} {M : me_M} {Q : Option me_V → me_M → Prop} (h : mKd M h0 = 4 ∧ ∀ M2, M2 = mSetI M 1192 h0 0 v1 → ∀ M3, M3 = mSetR M2 1193 h0 0 a2 → Q none M3) : EX eL X_En_become 0 [some (.inr (some h0)), some (.inl v1), some (.inr a2)] [] M Q := by
  refine ex_aload_n (pc := 0) d_En_become_0 rfl ?_
  refine ex_iload_n (pc := 1) d_En_become_1 rfl ?_
  obtain ⟨k1, h⟩ := h
  refine ex_putI (pc := 2) d_En_become_2 rfl rfl k1 ?_
  replace h := h _ rfl
  refine ex_aload_n (pc := 5) d_En_become_5 rfl ?_
  refine ex_aload_n (pc := 6) d_En_become_6 rfl ?_
  refine ex_putR (pc := 7) d_En_become_7 rfl rfl k1 ?_
  replace h := h _ rfl
  exact ex_ret_v (pc := 10) d_En_become_10 rfl h
theorem sg_At_init_0 {h0 : Nat} {v1 : Int32} {v2 : Int32} {v3 : Int32} {v4 : Int32} {M : me_M} {Q : Option me_V → me_M → Prop} (h : mKd M h0 = 6 ∧ ∀ M2, M2 = mSetI M 1320 h0 0 v1 → ∀ M3, M3 = mSetI M2 1323 h0 0 v2 → (v3 = 0 ∨ v3 = 1) ∧ ∀ M4, M4 = mSetI M3 1321 h0 0 v3 → ¬ v4 < 0 ∧ v4.toNatClampNeg ≤ 100000 ∧ ∀ q7 M6, q7 = mSz M4 → M6 = mNew M4 106 v4.toNatClampNeg v4.toNatClampNeg → mKd M6 h0 = 6 ∧ ∀ M12, M12 = mSetR M6 1322 h0 0 (some q7) → Q none M12) : EX eL X_At_init 0 [some (.inr (some h0)), some (.inl v1), some (.inl v2), some (.inl v3), some (.inl v4)] [] M Q := by
  refine ex_aload_n (pc := 0) d_At_init_0 rfl ?_
  refine ex_obj (pc := 1) d_At_init_1 rfl (by decide) (Nat.le_of_ble_eq_true rfl) ?_
  refine ex_aload_n (pc := 4) d_At_init_4 rfl ?_
  refine ex_iload_n (pc := 5) d_At_init_5 rfl ?_
  obtain ⟨k1, h⟩ := h
  refine ex_putI (pc := 6) d_At_init_6 rfl rfl k1 ?_
  replace h := h _ rfl
  refine ex_aload_n (pc := 9) d_At_init_9 rfl ?_
  refine ex_iload_n (pc := 10) d_At_init_10 rfl ?_
  refine ex_putI (pc := 11) d_At_init_11 rfl rfl k1 ?_
  replace h := h _ rfl
  refine ex_aload_n (pc := 14) d_At_init_14 rfl ?_
  refine ex_iload_n (pc := 15) d_At_init_15 rfl ?_
  obtain ⟨z5, h⟩ := h
  refine ex_putZ (pc := 16) d_At_init_16 rfl rfl k1 z5 ?_
  replace h := h _ rfl
  refine ex_aload_n (pc := 19) d_At_init_19 rfl ?_
  refine ex_iload (pc := 20) d_At_init_20 rfl ?_
  obtain ⟨n9, n10, h⟩ := h
  refine ex_newR (pc := 22) d_At_init_22 rfl (by decide) n9 n10 (fun k8 => ?_)
  replace h := h _ _ rfl rfl
  obtain ⟨k11, h⟩ := h
  refine ex_putR (pc := 25) d_At_init_25 rfl rfl k11 ?_
  replace h := h _ rfl
  exact ex_ret_v (pc := 28) d_At_init_28 rfl h
theorem sg_Ms_init_0 {h0 : Nat} {v1 : Int32} {v2 : Int32} {v3 : Int32} {v4 : Int32} {v5 : Int32} {a6 : Option Nat} {a7 : Option Nat} {M : me_M} {Q : Option me_V → me_M → Prop} (h : mKd M h0 = 10 ∧ ∀ M2, M2 = mSetI M 1576 h0 0 v1 → ∀ M3, M3 = mSetI M2 1577 h0 0 v2 → ∀ M4, M4 = mSetI M3 1578 h0 0 v3 → ∀ M5, M5 = mSetI M4 1579 h0 0 v4 → ∀ M6, M6 = mSetI M5 1580 h0 0 v5 → ∀ M7, M7 = mSetR M6 1581 h0 0 a6 → ∀ M8, M8 = mSetR M7 1582 h0 0 a7 → Q none M8) : EX eL X_Ms_init 0 [some (.inr (some h0)), some (.inl v1), some (.inl v2), some (.inl v3), some (.inl v4), some (.inl v5), some (.inr a6), some (.inr a7)] [] M Q := by
  refine ex_aload_n (pc := 0) d_Ms_init_0 rfl ?_
  refine ex_obj (pc := 1) d_Ms_init_1 rfl (by decide) (Nat.le_of_ble_eq_true rfl) ?_
  refine ex_aload_n (pc := 4) d_Ms_init_4 rfl ?_
  refine ex_iload_n (pc := 5) d_Ms_init_5 rfl ?_
  obtain ⟨k1, h⟩ := h
  refine ex_putI (pc := 6) d_Ms_init_6 rfl rfl k1 ?_
  replace h := h _ rfl
  refine ex_aload_n (pc := 9) d_Ms_init_9 rfl ?_
  refine ex_iload_n (pc := 10) d_Ms_init_10 rfl ?_
  refine ex_putI (pc := 11) d_Ms_init_11 rfl rfl k1 ?_
  replace h := h _ rfl
  refine ex_aload_n (pc := 14) d_Ms_init_14 rfl ?_
  refine ex_iload_n (pc := 15) d_Ms_init_15 rfl ?_
  refine ex_putI (pc := 16) d_Ms_init_16 rfl rfl k1 ?_
  replace h := h _ rfl
  refine ex_aload_n (pc := 19) d_Ms_init_19 rfl ?_
  refine ex_iload (pc := 20) d_Ms_init_20 rfl ?_
  refine ex_putI (pc := 22) d_Ms_init_22 rfl rfl k1 ?_
  replace h := h _ rfl
  refine ex_aload_n (pc := 25) d_Ms_init_25 rfl ?_
  refine ex_iload (pc := 26) d_Ms_init_26 rfl ?_
  refine ex_putI (pc := 28) d_Ms_init_28 rfl rfl k1 ?_
  replace h := h _ rfl
  refine ex_aload_n (pc := 31) d_Ms_init_31 rfl ?_
  refine ex_aload (pc := 32) d_Ms_init_32 rfl ?_
  refine ex_putR (pc := 34) d_Ms_init_34 rfl rfl k1 ?_
  replace h := h _ rfl
  refine ex_aload_n (pc := 37) d_Ms_init_37 rfl ?_
  refine ex_aload (pc := 38) d_Ms_init_38 rfl ?_
  refine ex_putR (pc := 40) d_Ms_init_40 rfl rfl k1 ?_
  replace h := h _ rfl
  exact ex_ret_v (pc := 43) d_Ms_init_43 rfl h
theorem sg_Net_send_0 {h0 : Nat} {a1 : Option Nat} {M : me_M} {Q : Option me_V → me_M → Prop} (h : mKd M h0 = 2 ∧ (((mI M 1065 h0 0) < 40) → ∃ q2, (mR M 1064 h0 0) = some q2 ∧ mKd M q2 = 102 ∧ vp_in (mI M 1065 h0 0) (mLn M q2) ∧ ∃ q7, a1 = some q7 ∧ mKd M q7 = 10 ∧ ∀ M6, M6 = mSetR M 102 q2 (mI M 1065 h0 0).toNatClampNeg (some q7) → ∀ M10, M10 = mSetI M6 1065 h0 0 ((mI M6 1065 h0 0) + 1) → Q none M10) ∧ ((¬ (mI M 1065 h0 0) < 40) → ∀ M11, M11 = mSetI M 1066 h0 0 ((mI M 1066 h0 0) + 1) → Q none M11)) : EX eL X_Net_send 0 [some (.inr (some h0)), some (.inr a1)] [] M Q := by
  refine ex_aload_n (pc := 0) d_Net_send_0 rfl ?_
  obtain ⟨k1, h⟩ := h
  refine ex_getI (pc := 1) d_Net_send_1 rfl rfl (by decide) k1 ?_
  refine ex_bipush (w := 40) (pc := 4) d_Net_send_4 (by decide) ?_
  refine ex_icmp_lt (tgt := 20) (pc := 6) d_Net_send_6 (by decide) (fun g => ?_) (fun g => ?_)
  · replace h := h.1 g
    refine ex_aload_n (pc := 20) d_Net_send_20 rfl ?_
    refine ex_getR (pc := 21) d_Net_send_21 rfl rfl k1 ?_
    refine ex_aload_n (pc := 24) d_Net_send_24 rfl ?_
    refine ex_getI (pc := 25) d_Net_send_25 rfl rfl (by decide) k1 ?_
    refine ex_aload_n (pc := 28) d_Net_send_28 rfl ?_
    obtain ⟨q2, e3, h⟩ := h
    obtain ⟨k4, h⟩ := h
    obtain ⟨b5, h⟩ := h
    obtain ⟨q7, e8, h⟩ := h
    obtain ⟨k9, h⟩ := h
    refine ex_aast (pc := 29) d_Net_send_29 e3 k4 (by decide) b5 e8 k9 ?_
    replace h := h _ rfl
    refine ex_aload_n (pc := 30) d_Net_send_30 rfl ?_
    refine ex_dup (pc := 31) d_Net_send_31 ?_
    refine ex_getI (pc := 32) d_Net_send_32 rfl rfl (by decide) k1 ?_
    refine ex_iconst (w := 1) (pc := 35) d_Net_send_35 (by decide) ?_
    refine ex_iadd (pc := 36) d_Net_send_36 ?_
    refine ex_putI (pc := 37) d_Net_send_37 rfl rfl k1 ?_
    replace h := h _ rfl
    exact ex_ret_v (pc := 40) d_Net_send_40 rfl h
  · replace h := h.2 g
    refine ex_aload_n (pc := 9) d_Net_send_9 rfl ?_
    refine ex_dup (pc := 10) d_Net_send_10 ?_
    refine ex_getI (pc := 11) d_Net_send_11 rfl rfl (by decide) k1 ?_
    refine ex_iconst (w := 1) (pc := 14) d_Net_send_14 (by decide) ?_
    refine ex_iadd (pc := 15) d_Net_send_15 ?_
    refine ex_putI (pc := 16) d_Net_send_16 rfl rfl k1 ?_
    replace h := h _ rfl
    exact ex_ret_v (pc := 19) d_Net_send_19 rfl h
theorem sg_Rp_startCommand_0 {h0 : Nat} {v1 : Int32} {a2 : Option Nat} {M : me_M} {Q : Option me_V → me_M → Prop} (h : ∀ q2 M1, q2 = mSz M → M1 = mNew M 8 0 3 → EX eL X_Or_init 0 [some (.inr (some q2)), some (.inr a2), some (.inl 1), some (.inl 0)] [] M1 (fun r5 M4 => r5 = none ∧ mKd M4 h0 = 3 ∧ EX eL X_Rp_fitted 0 [some (.inr (some h0)), some (.inl v1), some (.inr (some q2)), none, none, none, none] [] M4 (fun r8 M7 => ∃ a9, r8 = some (.inr a9) ∧ mKd M7 h0 = 3 ∧ ∃ q11, (mR M7 1132 h0 0) = some q11 ∧ mKd M7 q11 = 104 ∧ vp_in v1 (mLn M7 q11) ∧ ∃ q15, (mR M7 104 q11 v1.toNatClampNeg) = some q15 ∧ mKd M7 q15 = 4 ∧ EX eL X_En_become 0 [some (.inr (some q15)), some (.inl 1), some (.inr a9)] [] M7 (fun r19 M18 => r19 = none ∧ mKd M18 h0 = 3 ∧ ∀ q22 M21, q22 = mSz M18 → M21 = mNew M18 6 0 8 → EX eL X_At_init 0 [some (.inr (some q22)), some (.inl 0), some (.inl 1), some (.inl 1), some (.inl 0)] [] M21 (fun r25 M24 => r25 = none ∧ ∃ q26, (mR M18 1133 h0 0) = some q26 ∧ mKd M24 q26 = 105 ∧ vp_in v1 (mLn M24 q26) ∧ mKd M24 q22 = 6 ∧ ∀ M30, M30 = mSetR M24 105 q26 v1.toNatClampNeg (some q22) → EX eL X_Rp_startCommand 47 [some (.inr (some h0)), some (.inl v1), none, some (.inr a9), some (.inl 1), none] [] M30 Q))))) : EX eL X_Rp_startCommand 0 [some (.inr (some h0)), some (.inl v1), some (.inr a2), none, none, none] [] M Q := by
  refine ex_aload_n (pc := 0) d_Rp_startCommand_0 rfl ?_
  refine ex_iload_n (pc := 1) d_Rp_startCommand_1 rfl ?_
  refine ex_new (ci := 7) (n := 3) (pc := 2) d_Rp_startCommand_2 rfl (fun k3 => ?_)
  replace h := h _ _ rfl rfl
  refine ex_dup (pc := 5) d_Rp_startCommand_5 ?_
  refine ex_aload_n (pc := 6) d_Rp_startCommand_6 rfl ?_
  refine ex_iconst (w := 1) (pc := 7) d_Rp_startCommand_7 (by decide) ?_
  refine ex_iconst (w := 0) (pc := 8) d_Rp_startCommand_8 (by decide) ?_
  refine ex_cVV (as := [_, _, _]) (st := [_, _, _]) (pc := 9) rfl rfl k3 rfl rfl rfl (Nat.le_of_ble_eq_true rfl) (EX.mono h fun r5 M4 h => ?_)
  obtain ⟨rfl, h⟩ := h
  refine ⟨rfl, ?_⟩
  obtain ⟨k6, h⟩ := h
  refine ex_cVR (as := [_, _]) (st := []) (pc := 12) rfl rfl k6 rfl rfl rfl (Nat.le_of_ble_eq_true rfl) (EX.mono h fun r8 M7 h => ?_)
  obtain ⟨a9, rfl, h⟩ := h
  refine ⟨_, rfl, ?_⟩
  refine ex_astore_n (ls2 := [_, _, _, _, _, _]) (pc := 15) d_Rp_startCommand_15 (Nat.le_of_ble_eq_true rfl) rfl ?_
  refine ex_aload_n (pc := 16) d_Rp_startCommand_16 rfl ?_
  obtain ⟨k10, h⟩ := h
  refine ex_getR (pc := 17) d_Rp_startCommand_17 rfl rfl k10 ?_
  refine ex_iload_n (pc := 20) d_Rp_startCommand_20 rfl ?_
  obtain ⟨q11, e12, h⟩ := h
  obtain ⟨k13, h⟩ := h
  obtain ⟨b14, h⟩ := h
  refine ex_aald (pc := 21) d_Rp_startCommand_21 e12 k13 (by decide) b14 ?_
  refine ex_iconst (w := 1) (pc := 22) d_Rp_startCommand_22 (by decide) ?_
  refine ex_aload_n (pc := 23) d_Rp_startCommand_23 rfl ?_
  obtain ⟨q15, e16, h⟩ := h
  obtain ⟨k17, h⟩ := h
  refine ex_cVV (as := [_, _]) (st := []) (pc := 24) e16 rfl k17 rfl rfl rfl (Nat.le_of_ble_eq_true rfl) (EX.mono h fun r19 M18 h => ?_)
  obtain ⟨rfl, h⟩ := h
  refine ⟨rfl, ?_⟩
  refine ex_aload_n (pc := 27) d_Rp_startCommand_27 rfl ?_
  obtain ⟨k20, h⟩ := h
  refine ex_getR (pc := 28) d_Rp_startCommand_28 rfl rfl k20 ?_
  refine ex_iload_n (pc := 31) d_Rp_startCommand_31 rfl ?_
  refine ex_new (ci := 5) (n := 8) (pc := 32) d_Rp_startCommand_32 rfl (fun k23 => ?_)
  replace h := h _ _ rfl rfl
  refine ex_dup (pc := 35) d_Rp_startCommand_35 ?_
  refine ex_iconst (w := 0) (pc := 36) d_Rp_startCommand_36 (by decide) ?_
  refine ex_iconst (w := 1) (pc := 37) d_Rp_startCommand_37 (by decide) ?_
  refine ex_iconst (w := 1) (pc := 38) d_Rp_startCommand_38 (by decide) ?_
  refine ex_iconst (w := 0) (pc := 39) d_Rp_startCommand_39 (by decide) ?_
  refine ex_cVV (as := [_, _, _, _]) (st := [_, _, _]) (pc := 40) rfl rfl k23 rfl rfl rfl (Nat.le_of_ble_eq_true rfl) (EX.mono h fun r25 M24 h => ?_)
  obtain ⟨rfl, h⟩ := h
  refine ⟨rfl, ?_⟩
  obtain ⟨q26, e27, h⟩ := h
  obtain ⟨k28, h⟩ := h
  obtain ⟨b29, h⟩ := h
  obtain ⟨k31, h⟩ := h
  refine ex_aast (pc := 43) d_Rp_startCommand_43 e27 k28 (by decide) b29 rfl k31 ?_
  replace h := h _ rfl
  refine ex_iconst (w := 1) (pc := 44) d_Rp_startCommand_44 (by decide) ?_
  refine ex_istore (ls2 := [_, _, _, _, _, _]) (pc := 45) d_Rp_startCommand_45 (Nat.le_of_ble_eq_true rfl) rfl ?_
  refine ex_drop (k := 2) (ls2 := [_, _, _, _, _, _]) rfl ?_
  exact h
theorem sg_Rp_startCommand_47 {h0 : Nat} {v1 : Int32} {a3 : Option Nat} {v4 : Int32} {M : me_M} {Q : Option me_V → me_M → Prop} (h : mKd M h0 = 3 ∧ ((((mI M 1129 h0 0) - 2) < v4) → Q none M) ∧ ((¬ ((mI M 1129 h0 0) - 2) < v4) → ¬ (mI M 1129 h0 0) = 0 ∧ ∀ x3, x3 = (((mI M 1128 h0 0) + v4) - ((mI M 1128 h0 0) + v4) / (mI M 1129 h0 0) * (mI M 1129 h0 0)) → ∀ q5 M4, q5 = mSz M → M4 = mNew M 10 0 7 → mKd M4 h0 = 3 ∧ EX eL X_Ms_init 0 [some (.inr (some q5)), some (.inl 0), some (.inl (mI M4 1128 h0 0)), some (.inl x3), some (.inl v1), some (.inl 0), some (.inr a3), some (.inr none)] [] M4 (fun r9 M8 => r9 = none ∧ ∃ q10, (mR M 1131 h0 0) = some q10 ∧ mKd M8 q10 = 2 ∧ EX eL X_Net_send 0 [some (.inr (some q10)), some (.inr (some q5))] [] M8 (fun r14 M13 => r14 = none ∧ ∀ x15, x15 = v4 + Int32.ofInt 1 → EX eL X_Rp_startCommand 47 [some (.inr (some h0)), some (.inl v1), none, some (.inr a3), some (.inl x15), none] [] M13 Q)))) : EX eL X_Rp_startCommand 47 [some (.inr (some h0)), some (.inl v1), none, some (.inr a3), some (.inl v4), none] [] M Q := by
  refine ex_iload (pc := 47) d_Rp_startCommand_47 rfl ?_
  refine ex_aload_n (pc := 49) d_Rp_startCommand_49 rfl ?_
  obtain ⟨k1, h⟩ := h
  refine ex_getI (pc := 50) d_Rp_startCommand_50 rfl rfl (by decide) k1 ?_
  refine ex_iconst (w := 2) (pc := 53) d_Rp_startCommand_53 (by decide) ?_
  refine ex_isub (pc := 54) d_Rp_startCommand_54 ?_
  refine ex_icmp_gt (tgt := 103) (pc := 55) d_Rp_startCommand_55 (by decide) (fun g => ?_) (fun g => ?_)
  · replace h := h.1 g
    exact ex_ret_v (pc := 103) d_Rp_startCommand_103 rfl h
  · replace h := h.2 g
    refine ex_aload_n (pc := 58) d_Rp_startCommand_58 rfl ?_
    refine ex_getI (pc := 59) d_Rp_startCommand_59 rfl rfl (by decide) k1 ?_
    refine ex_iload (pc := 62) d_Rp_startCommand_62 rfl ?_
    refine ex_iadd (pc := 64) d_Rp_startCommand_64 ?_
    refine ex_aload_n (pc := 65) d_Rp_startCommand_65 rfl ?_
    refine ex_getI (pc := 66) d_Rp_startCommand_66 rfl rfl (by decide) k1 ?_
    obtain ⟨n2, h⟩ := h
    refine ex_irem (pc := 69) d_Rp_startCommand_69 n2 ?_
    refine ex_istore (ls2 := [_, _, _, _, _, _]) (pc := 70) d_Rp_startCommand_70 (Nat.le_of_ble_eq_true rfl) rfl ?_
    replace h := h _ rfl
    refine ex_aload_n (pc := 72) d_Rp_startCommand_72 rfl ?_
    refine ex_getR (pc := 73) d_Rp_startCommand_73 rfl rfl k1 ?_
    refine ex_new (ci := 9) (n := 7) (pc := 76) d_Rp_startCommand_76 rfl (fun k6 => ?_)
    replace h := h _ _ rfl rfl
    refine ex_dup (pc := 79) d_Rp_startCommand_79 ?_
    refine ex_iconst (w := 0) (pc := 80) d_Rp_startCommand_80 (by decide) ?_
    refine ex_aload_n (pc := 81) d_Rp_startCommand_81 rfl ?_
    obtain ⟨k7, h⟩ := h
    refine ex_getI (pc := 82) d_Rp_startCommand_82 rfl rfl (by decide) k7 ?_
    refine ex_iload (pc := 85) d_Rp_startCommand_85 rfl ?_
    refine ex_iload_n (pc := 87) d_Rp_startCommand_87 rfl ?_
    refine ex_iconst (w := 0) (pc := 88) d_Rp_startCommand_88 (by decide) ?_
    refine ex_aload_n (pc := 89) d_Rp_startCommand_89 rfl ?_
    refine ex_null (pc := 90) d_Rp_startCommand_90 ?_
    refine ex_cVV (as := [_, _, _, _, _, _, _]) (st := [_, _]) (pc := 91) rfl rfl k6 rfl rfl rfl (Nat.le_of_ble_eq_true rfl) (EX.mono h fun r9 M8 h => ?_)
    obtain ⟨rfl, h⟩ := h
    refine ⟨rfl, ?_⟩
    obtain ⟨q10, e11, h⟩ := h
    obtain ⟨k12, h⟩ := h
    refine ex_cVV (as := [_]) (st := []) (pc := 94) e11 rfl k12 rfl rfl rfl (Nat.le_of_ble_eq_true rfl) (EX.mono h fun r14 M13 h => ?_)
    obtain ⟨rfl, h⟩ := h
    refine ⟨rfl, ?_⟩
    refine ex_iinc (ls2 := [_, _, _, _, _, _]) (pc := 97) d_Rp_startCommand_97 rfl rfl ?_
    replace h := h _ rfl
    refine ex_goto (tgt := 47) (pc := 100) d_Rp_startCommand_100 (by decide) ?_
    refine ex_drop (k := 5) (ls2 := [_, _, _, _, _, _]) rfl ?_
    exact h
theorem sg_LM_propose_0 {h0 : Nat} {v1 : Int32} {v2 : Int32} {v3 : Int32} {v4 : Int32} {M : me_M} {Q : Option me_V → me_M → Prop} (h : mKd M h0 = 1 ∧ EX eL X_LM_workingReplica 0 [some (.inr (some h0)), some (.inl v1)] [] M (fun r3 M2 => ∃ a4, r3 = some (.inr a4) ∧ ((a4 = none) → Q (some (.inl (-1 : Int32))) M2) ∧ ((¬ a4 = none) → mKd M2 h0 = 1 ∧ EX eL X_LM_isKey 0 [some (.inr (some h0)), some (.inl v2)] [] M2 (fun r7 M6 => ∃ x8, r7 = some (.inl x8) ∧ ((¬ x8 = 0) → ∃ q9, a4 = some q9 ∧ mKd M6 q9 = 3 ∧ EX eL X_Rp_freeInstance 0 [some (.inr (some q9)), none, none] [] M6 (fun r13 M12 => ∃ x14, r13 = some (.inl x14) ∧ ((x14 < 0) → Q (some (.inl x14)) M12) ∧ ((¬ x14 < 0) → ∀ q16 M15, q16 = mSz M12 → M15 = mNew M12 7 0 3 → ((v3 = 0) → EX eL X_Cmd_init 0 [some (.inr (some q16)), some (.inl 0), some (.inl v2), some (.inl v4)] [] M15 (fun r19 M18 => r19 = none ∧ mKd M18 q9 = 3 ∧ EX eL X_Rp_startCommand 0 [some (.inr (some q9)), some (.inl x14), some (.inr (some q16)), none, none, none] [] M18 (fun r22 M21 => r22 = none ∧ Q (some (.inl x14)) M21))) ∧ ((¬ v3 = 0) → EX eL X_Cmd_init 0 [some (.inr (some q16)), some (.inl 1), some (.inl v2), some (.inl v4)] [] M15 (fun r24 M23 => r24 = none ∧ mKd M23 q9 = 3 ∧ EX eL X_Rp_startCommand 0 [some (.inr (some q9)), some (.inl x14), some (.inr (some q16)), none, none, none] [] M23 (fun r27 M26 => r27 = none ∧ Q (some (.inl x14)) M26)))))) ∧ ((x8 = 0) → Q (some (.inl (-1 : Int32))) M6))))) : EX eL X_LM_propose 0 [some (.inr (some h0)), some (.inl v1), some (.inl v2), some (.inl v3), some (.inl v4), none, none] [] M Q := by
  refine ex_aload_n (pc := 0) d_LM_propose_0 rfl ?_
  refine ex_iload_n (pc := 1) d_LM_propose_1 rfl ?_
  obtain ⟨k1, h⟩ := h
  refine ex_cVR (as := [_]) (st := []) (pc := 2) rfl rfl k1 rfl rfl rfl (Nat.le_of_ble_eq_true rfl) (EX.mono h fun r3 M2 h => ?_)
  obtain ⟨a4, rfl, h⟩ := h
  refine ⟨_, rfl, ?_⟩
  refine ex_astore (ls2 := [_, _, _, _, _, _, _]) (pc := 5) d_LM_propose_5 (Nat.le_of_ble_eq_true rfl) rfl ?_
  refine ex_aload (pc := 7) d_LM_propose_7 rfl ?_
  refine ex_ifnull (tgt := 20) (pc := 9) d_LM_propose_9 (by decide) (fun g => ?_) (fun g => ?_)
  · replace h := h.1 g
    refine ex_iconst (w := (-1 : Int32)) (pc := 20) d_LM_propose_20 (by decide) ?_
    exact ex_ret_i (pc := 21) d_LM_propose_21 rfl h
  · replace h := h.2 g
    refine ex_aload_n (pc := 12) d_LM_propose_12 rfl ?_
    refine ex_iload_n (pc := 13) d_LM_propose_13 rfl ?_
    obtain ⟨k5, h⟩ := h
    refine ex_cVI (as := [_]) (st := []) (pc := 14) rfl rfl k5 rfl rfl rfl (Nat.le_of_ble_eq_true rfl) (EX.mono h fun r7 M6 h => ?_)
    obtain ⟨x8, rfl, h⟩ := h
    refine ⟨_, rfl, ?_⟩
    refine ex_if_ne (tgt := 22) (pc := 17) d_LM_propose_17 (by decide) (fun g => ?_) (fun g => ?_)
    · replace h := h.1 g
      refine ex_aload (pc := 22) d_LM_propose_22 rfl ?_
      obtain ⟨q9, e10, h⟩ := h
      obtain ⟨k11, h⟩ := h
      refine ex_cVI (as := []) (st := []) (pc := 24) e10 rfl k11 rfl rfl rfl (Nat.le_of_ble_eq_true rfl) (EX.mono h fun r13 M12 h => ?_)
      obtain ⟨x14, rfl, h⟩ := h
      refine ⟨_, rfl, ?_⟩
      refine ex_istore (ls2 := [_, _, _, _, _, _, _]) (pc := 27) d_LM_propose_27 (Nat.le_of_ble_eq_true rfl) rfl ?_
      refine ex_iload (pc := 29) d_LM_propose_29 rfl ?_
      refine ex_if_lt (tgt := 60) (pc := 31) d_LM_propose_31 (by decide) (fun g => ?_) (fun g => ?_)
      · replace h := h.1 g
        refine ex_iload (pc := 60) d_LM_propose_60 rfl ?_
        exact ex_ret_i (pc := 62) d_LM_propose_62 rfl h
      · replace h := h.2 g
        refine ex_aload (pc := 34) d_LM_propose_34 rfl ?_
        refine ex_iload (pc := 36) d_LM_propose_36 rfl ?_
        refine ex_new (ci := 6) (n := 3) (pc := 38) d_LM_propose_38 rfl (fun k17 => ?_)
        replace h := h _ _ rfl rfl
        refine ex_dup (pc := 41) d_LM_propose_41 ?_
        refine ex_iload_n (pc := 42) d_LM_propose_42 rfl ?_
        refine ex_if_eq (tgt := 50) (pc := 43) d_LM_propose_43 (by decide) (fun g => ?_) (fun g => ?_)
        · replace h := h.1 g
          refine ex_iconst (w := 0) (pc := 50) d_LM_propose_50 (by decide) ?_
          refine ex_iload_n (pc := 51) d_LM_propose_51 rfl ?_
          refine ex_iload (pc := 52) d_LM_propose_52 rfl ?_
          refine ex_cVV (as := [_, _, _]) (st := [_, _, _]) (pc := 54) rfl rfl k17 rfl rfl rfl (Nat.le_of_ble_eq_true rfl) (EX.mono h fun r19 M18 h => ?_)
          obtain ⟨rfl, h⟩ := h
          refine ⟨rfl, ?_⟩
          obtain ⟨k20, h⟩ := h
          refine ex_cVV (as := [_, _]) (st := []) (pc := 57) e10 rfl k20 rfl rfl rfl (Nat.le_of_ble_eq_true rfl) (EX.mono h fun r22 M21 h => ?_)
          obtain ⟨rfl, h⟩ := h
          refine ⟨rfl, ?_⟩
          refine ex_iload (pc := 60) d_LM_propose_60 rfl ?_
          exact ex_ret_i (pc := 62) d_LM_propose_62 rfl h
        · replace h := h.2 g
          refine ex_iconst (w := 1) (pc := 46) d_LM_propose_46 (by decide) ?_
          refine ex_goto (tgt := 51) (pc := 47) d_LM_propose_47 (by decide) ?_
          refine ex_iload_n (pc := 51) d_LM_propose_51 rfl ?_
          refine ex_iload (pc := 52) d_LM_propose_52 rfl ?_
          refine ex_cVV (as := [_, _, _]) (st := [_, _, _]) (pc := 54) rfl rfl k17 rfl rfl rfl (Nat.le_of_ble_eq_true rfl) (EX.mono h fun r24 M23 h => ?_)
          obtain ⟨rfl, h⟩ := h
          refine ⟨rfl, ?_⟩
          obtain ⟨k25, h⟩ := h
          refine ex_cVV (as := [_, _]) (st := []) (pc := 57) e10 rfl k25 rfl rfl rfl (Nat.le_of_ble_eq_true rfl) (EX.mono h fun r27 M26 h => ?_)
          obtain ⟨rfl, h⟩ := h
          refine ⟨rfl, ?_⟩
          refine ex_iload (pc := 60) d_LM_propose_60 rfl ?_
          exact ex_ret_i (pc := 62) d_LM_propose_62 rfl h
    · replace h := h.2 g
      refine ex_iconst (w := (-1 : Int32)) (pc := 20) d_LM_propose_20 (by decide) ?_
      exact ex_ret_i (pc := 21) d_LM_propose_21 rfl h
theorem sg_LM_entryAt_0 {h0 : Nat} {v1 : Int32} {v2 : Int32} {M : me_M} {Q : Option me_V → me_M → Prop} (h : mKd M h0 = 1 ∧ EX eL X_LM_isReplica 0 [some (.inr (some h0)), some (.inl v1)] [] M (fun r3 M2 => ∃ x4, r3 = some (.inl x4) ∧ ((x4 = 0) → Q (some (.inr none)) M2) ∧ ((¬ x4 = 0) → ((v2 < 0) → Q (some (.inr none)) M2) ∧ ((¬ v2 < 0) → mKd M2 h0 = 1 ∧ (((6 * (mI M2 1000 h0 0)) ≤ v2) → Q (some (.inr none)) M2) ∧ ((¬ (6 * (mI M2 1000 h0 0)) ≤ v2) → ∃ q6, (mR M2 1003 h0 0) = some q6 ∧ mKd M2 q6 = 103 ∧ vp_in v1 (mLn M2 q6) ∧ ∃ q10, (mR M2 103 q6 v1.toNatClampNeg) = some q10 ∧ mKd M2 q10 = 3 ∧ ∃ q13, (mR M2 1132 q10 0) = some q13 ∧ mKd M2 q13 = 104 ∧ vp_in v2 (mLn M2 q13) ∧ Q (some (.inr (mR M2 104 q13 v2.toNatClampNeg))) M2))))) : EX eL X_LM_entryAt 0 [some (.inr (some h0)), some (.inl v1), some (.inl v2), none] [] M Q := by
  refine ex_aload_n (pc := 0) d_LM_entryAt_0 rfl ?_
  refine ex_iload_n (pc := 1) d_LM_entryAt_1 rfl ?_
  obtain ⟨k1, h⟩ := h
  refine ex_cVI (as := [_]) (st := []) (pc := 2) rfl rfl k1 rfl rfl rfl (Nat.le_of_ble_eq_true rfl) (EX.mono h fun r3 M2 h => ?_)
  obtain ⟨x4, rfl, h⟩ := h
  refine ⟨_, rfl, ?_⟩
  refine ex_if_eq (tgt := 27) (pc := 5) d_LM_entryAt_5 (by decide) (fun g => ?_) (fun g => ?_)
  · replace h := h.1 g
    refine ex_iconst (w := 0) (pc := 27) d_LM_entryAt_27 (by decide) ?_
    refine ex_istore_n (ls2 := [_, _, _, _]) (pc := 28) d_LM_entryAt_28 (Nat.le_of_ble_eq_true rfl) rfl ?_
    refine ex_iload_n (pc := 29) d_LM_entryAt_29 rfl ?_
    refine ex_if_eq (tgt := 47) (pc := 30) d_LM_entryAt_30 (by decide) (fun _ => ?_) (fun g => absurd g (by decide))
    refine ex_null (pc := 47) d_LM_entryAt_47 ?_
    exact ex_ret_a (pc := 48) d_LM_entryAt_48 rfl h
  · replace h := h.2 g
    refine ex_iload_n (pc := 8) d_LM_entryAt_8 rfl ?_
    refine ex_if_lt (tgt := 27) (pc := 9) d_LM_entryAt_9 (by decide) (fun g => ?_) (fun g => ?_)
    · replace h := h.1 g
      refine ex_iconst (w := 0) (pc := 27) d_LM_entryAt_27 (by decide) ?_
      refine ex_istore_n (ls2 := [_, _, _, _]) (pc := 28) d_LM_entryAt_28 (Nat.le_of_ble_eq_true rfl) rfl ?_
      refine ex_iload_n (pc := 29) d_LM_entryAt_29 rfl ?_
      refine ex_if_eq (tgt := 47) (pc := 30) d_LM_entryAt_30 (by decide) (fun _ => ?_) (fun g => absurd g (by decide))
      refine ex_null (pc := 47) d_LM_entryAt_47 ?_
      exact ex_ret_a (pc := 48) d_LM_entryAt_48 rfl h
    · replace h := h.2 g
      refine ex_iload_n (pc := 12) d_LM_entryAt_12 rfl ?_
      refine ex_bipush (w := 6) (pc := 13) d_LM_entryAt_13 (by decide) ?_
      refine ex_aload_n (pc := 15) d_LM_entryAt_15 rfl ?_
      obtain ⟨k5, h⟩ := h
      refine ex_getI (pc := 16) d_LM_entryAt_16 rfl rfl (by decide) k5 ?_
      refine ex_imul (pc := 19) d_LM_entryAt_19 ?_
      refine ex_icmp_ge (tgt := 27) (pc := 20) d_LM_entryAt_20 (by decide) (fun g => ?_) (fun g => ?_)
      · replace h := h.1 g
        refine ex_iconst (w := 0) (pc := 27) d_LM_entryAt_27 (by decide) ?_
        refine ex_istore_n (ls2 := [_, _, _, _]) (pc := 28) d_LM_entryAt_28 (Nat.le_of_ble_eq_true rfl) rfl ?_
        refine ex_iload_n (pc := 29) d_LM_entryAt_29 rfl ?_
        refine ex_if_eq (tgt := 47) (pc := 30) d_LM_entryAt_30 (by decide) (fun _ => ?_) (fun g => absurd g (by decide))
        refine ex_null (pc := 47) d_LM_entryAt_47 ?_
        exact ex_ret_a (pc := 48) d_LM_entryAt_48 rfl h
      · replace h := h.2 g
        refine ex_iconst (w := 1) (pc := 23) d_LM_entryAt_23 (by decide) ?_
        refine ex_goto (tgt := 28) (pc := 24) d_LM_entryAt_24 (by decide) ?_
        refine ex_istore_n (ls2 := [_, _, _, _]) (pc := 28) d_LM_entryAt_28 (Nat.le_of_ble_eq_true rfl) rfl ?_
        refine ex_iload_n (pc := 29) d_LM_entryAt_29 rfl ?_
        refine ex_if_eq (tgt := 47) (pc := 30) d_LM_entryAt_30 (by decide) (fun g => absurd g (by decide)) (fun _ => ?_)
        refine ex_aload_n (pc := 33) d_LM_entryAt_33 rfl ?_
        refine ex_getR (pc := 34) d_LM_entryAt_34 rfl rfl k5 ?_
        refine ex_iload_n (pc := 37) d_LM_entryAt_37 rfl ?_
        obtain ⟨q6, e7, h⟩ := h
        obtain ⟨k8, h⟩ := h
        obtain ⟨b9, h⟩ := h
        refine ex_aald (pc := 38) d_LM_entryAt_38 e7 k8 (by decide) b9 ?_
        obtain ⟨q10, e11, h⟩ := h
        obtain ⟨k12, h⟩ := h
        refine ex_getR (pc := 39) d_LM_entryAt_39 e11 rfl k12 ?_
        refine ex_iload_n (pc := 42) d_LM_entryAt_42 rfl ?_
        obtain ⟨q13, e14, h⟩ := h
        obtain ⟨k15, h⟩ := h
        obtain ⟨b16, h⟩ := h
        refine ex_aald (pc := 43) d_LM_entryAt_43 e14 k15 (by decide) b16 ?_
        refine ex_goto (tgt := 48) (pc := 44) d_LM_entryAt_44 (by decide) ?_
        exact ex_ret_a (pc := 48) d_LM_entryAt_48 rfl h
theorem sg_En_isSettled_0 {h0 : Nat} {M : me_M} {Q : Option me_V → me_M → Prop} (h : mKd M h0 = 4 ∧ (((mI M 1192 h0 0) = 3) → Q (some (.inl 1)) M) ∧ ((¬ (mI M 1192 h0 0) = 3) → ((¬ (mI M 1192 h0 0) = 4) → Q (some (.inl 0)) M) ∧ (((mI M 1192 h0 0) = 4) → Q (some (.inl 1)) M))) : EX eL X_En_isSettled 0 [some (.inr (some h0))] [] M Q := by
  refine ex_aload_n (pc := 0) d_En_isSettled_0 rfl ?_
  obtain ⟨k1, h⟩ := h
  refine ex_getI (pc := 1) d_En_isSettled_1 rfl rfl (by decide) k1 ?_
  refine ex_iconst (w := 3) (pc := 4) d_En_isSettled_4 (by decide) ?_
  refine ex_icmp_eq (tgt := 16) (pc := 5) d_En_isSettled_5 (by decide) (fun g => ?_) (fun g => ?_)
  · replace h := h.1 g
    refine ex_iconst (w := 1) (pc := 16) d_En_isSettled_16 (by decide) ?_
    refine ex_goto (tgt := 21) (pc := 17) d_En_isSettled_17 (by decide) ?_
    exact ex_ret_z (pc := 21) d_En_isSettled_21 rfl (Or.inr rfl) h
  · replace h := h.2 g
    refine ex_aload_n (pc := 8) d_En_isSettled_8 rfl ?_
    refine ex_getI (pc := 9) d_En_isSettled_9 rfl rfl (by decide) k1 ?_
    refine ex_iconst (w := 4) (pc := 12) d_En_isSettled_12 (by decide) ?_
    refine ex_icmp_ne (tgt := 20) (pc := 13) d_En_isSettled_13 (by decide) (fun g => ?_) (fun g => ?_)
    · replace h := h.1 g
      refine ex_iconst (w := 0) (pc := 20) d_En_isSettled_20 (by decide) ?_
      exact ex_ret_z (pc := 21) d_En_isSettled_21 rfl (Or.inl rfl) h
    · replace h := h.2 g
      refine ex_iconst (w := 1) (pc := 16) d_En_isSettled_16 (by decide) ?_
      refine ex_goto (tgt := 21) (pc := 17) d_En_isSettled_17 (by decide) ?_
      exact ex_ret_z (pc := 21) d_En_isSettled_21 rfl (Or.inr rfl) h
theorem sg_Rp_nextBallot_0 {h0 : Nat} {v1 : Int32} {M : me_M} {Q : Option me_V → me_M → Prop} (h : mKd M h0 = 3 ∧ ¬ (mI M 1129 h0 0) = 0 ∧ ∀ x3, x3 = ((v1 - (v1 - v1 / (mI M 1129 h0 0) * (mI M 1129 h0 0))) + (mI M 1128 h0 0)) → ((x3 ≤ v1) → Q (some (.inl (x3 + (mI M 1129 h0 0)))) M) ∧ ((¬ x3 ≤ v1) → Q (some (.inl x3)) M)) : EX eL X_Rp_nextBallot 0 [some (.inr (some h0)), some (.inl v1), none] [] M Q := by
  refine ex_iload_n (pc := 0) d_Rp_nextBallot_0 rfl ?_
  refine ex_iload_n (pc := 1) d_Rp_nextBallot_1 rfl ?_
  refine ex_aload_n (pc := 2) d_Rp_nextBallot_2 rfl ?_
  obtain ⟨k1, h⟩ := h
  refine ex_getI (pc := 3) d_Rp_nextBallot_3 rfl rfl (by decide) k1 ?_
  obtain ⟨n2, h⟩ := h
  refine ex_irem (pc := 6) d_Rp_nextBallot_6 n2 ?_
  refine ex_isub (pc := 7) d_Rp_nextBallot_7 ?_
  refine ex_aload_n (pc := 8) d_Rp_nextBallot_8 rfl ?_
  refine ex_getI (pc := 9) d_Rp_nextBallot_9 rfl rfl (by decide) k1 ?_
  refine ex_iadd (pc := 12) d_Rp_nextBallot_12 ?_
  refine ex_istore_n (ls2 := [_, _, _]) (pc := 13) d_Rp_nextBallot_13 (Nat.le_of_ble_eq_true rfl) rfl ?_
  replace h := h _ rfl
  refine ex_iload_n (pc := 14) d_Rp_nextBallot_14 rfl ?_
  refine ex_iload_n (pc := 15) d_Rp_nextBallot_15 rfl ?_
  refine ex_icmp_le (tgt := 23) (pc := 16) d_Rp_nextBallot_16 (by decide) (fun g => ?_) (fun g => ?_)
  · replace h := h.1 g
    refine ex_iload_n (pc := 23) d_Rp_nextBallot_23 rfl ?_
    refine ex_aload_n (pc := 24) d_Rp_nextBallot_24 rfl ?_
    refine ex_getI (pc := 25) d_Rp_nextBallot_25 rfl rfl (by decide) k1 ?_
    refine ex_iadd (pc := 28) d_Rp_nextBallot_28 ?_
    exact ex_ret_i (pc := 29) d_Rp_nextBallot_29 rfl h
  · replace h := h.2 g
    refine ex_iload_n (pc := 19) d_Rp_nextBallot_19 rfl ?_
    refine ex_goto (tgt := 29) (pc := 20) d_Rp_nextBallot_20 (by decide) ?_
    exact ex_ret_i (pc := 29) d_Rp_nextBallot_29 rfl h
theorem sg_Rp_sendToOthers_0 {h0 : Nat} {v1 : Int32} {v2 : Int32} {v3 : Int32} {a4 : Option Nat} {M : me_M} {Q : Option me_V → me_M → Prop} (h : EX eL X_Rp_sendToOthers 3 [some (.inr (some h0)), some (.inl v1), some (.inl v2), some (.inl v3), some (.inr a4), some (.inl 0)] [] M Q) : EX eL X_Rp_sendToOthers 0 [some (.inr (some h0)), some (.inl v1), some (.inl v2), some (.inl v3), some (.inr a4), none] [] M Q := by
  refine ex_iconst (w := 0) (pc := 0) d_Rp_sendToOthers_0 (by decide) ?_
  refine ex_istore (ls2 := [_, _, _, _, _, _]) (pc := 1) d_Rp_sendToOthers_1 (Nat.le_of_ble_eq_true rfl) rfl ?_
  exact h
theorem sg_Rp_sendToOthers_3 {h0 : Nat} {v1 : Int32} {v2 : Int32} {v3 : Int32} {a4 : Option Nat} {v5 : Int32} {M : me_M} {Q : Option me_V → me_M → Prop} (h : mKd M h0 = 3 ∧ (((mI M 1129 h0 0) ≤ v5) → Q none M) ∧ ((¬ (mI M 1129 h0 0) ≤ v5) → ((v5 = (mI M 1128 h0 0)) → ∀ x2, x2 = v5 + Int32.ofInt 1 → EX eL X_Rp_sendToOthers 3 [some (.inr (some h0)), some (.inl v1), some (.inl v2), some (.inl v3), some (.inr a4), some (.inl x2)] [] M Q) ∧ ((¬ v5 = (mI M 1128 h0 0)) → ∀ q4 M3, q4 = mSz M → M3 = mNew M 10 0 7 → mKd M3 h0 = 3 ∧ EX eL X_Ms_init 0 [some (.inr (some q4)), some (.inl v1), some (.inl (mI M3 1128 h0 0)), some (.inl v5), some (.inl v2), some (.inl v3), some (.inr a4), some (.inr none)] [] M3 (fun r8 M7 => r8 = none ∧ ∃ q9, (mR M 1131 h0 0) = some q9 ∧ mKd M7 q9 = 2 ∧ EX eL X_Net_send 0 [some (.inr (some q9)), some (.inr (some q4))] [] M7 (fun r13 M12 => r13 = none ∧ ∀ x14, x14 = v5 + Int32.ofInt 1 → EX eL X_Rp_sendToOthers 3 [some (.inr (some h0)), some (.inl v1), some (.inl v2), some (.inl v3), some (.inr a4), some (.inl x14)] [] M12 Q))))) : EX eL X_Rp_sendToOthers 3 [some (.inr (some h0)), some (.inl v1), some (.inl v2), some (.inl v3), some (.inr a4), some (.inl v5)] [] M Q := by
  refine ex_iload (pc := 3) d_Rp_sendToOthers_3 rfl ?_
  refine ex_aload_n (pc := 5) d_Rp_sendToOthers_5 rfl ?_
  obtain ⟨k1, h⟩ := h
  refine ex_getI (pc := 6) d_Rp_sendToOthers_6 rfl rfl (by decide) k1 ?_
  refine ex_icmp_ge (tgt := 53) (pc := 9) d_Rp_sendToOthers_9 (by decide) (fun g => ?_) (fun g => ?_)
  · replace h := h.1 g
    exact ex_ret_v (pc := 53) d_Rp_sendToOthers_53 rfl h
  · replace h := h.2 g
    refine ex_iload (pc := 12) d_Rp_sendToOthers_12 rfl ?_
    refine ex_aload_n (pc := 14) d_Rp_sendToOthers_14 rfl ?_
    refine ex_getI (pc := 15) d_Rp_sendToOthers_15 rfl rfl (by decide) k1 ?_
    refine ex_icmp_eq (tgt := 47) (pc := 18) d_Rp_sendToOthers_18 (by decide) (fun g => ?_) (fun g => ?_)
    · replace h := h.1 g
      refine ex_iinc (ls2 := [_, _, _, _, _, _]) (pc := 47) d_Rp_sendToOthers_47 rfl rfl ?_
      replace h := h _ rfl
      refine ex_goto (tgt := 3) (pc := 50) d_Rp_sendToOthers_50 (by decide) ?_
      exact h
    · replace h := h.2 g
      refine ex_aload_n (pc := 21) d_Rp_sendToOthers_21 rfl ?_
      refine ex_getR (pc := 22) d_Rp_sendToOthers_22 rfl rfl k1 ?_
      refine ex_new (ci := 9) (n := 7) (pc := 25) d_Rp_sendToOthers_25 rfl (fun k5 => ?_)
      replace h := h _ _ rfl rfl
      refine ex_dup (pc := 28) d_Rp_sendToOthers_28 ?_
      refine ex_iload_n (pc := 29) d_Rp_sendToOthers_29 rfl ?_
      refine ex_aload_n (pc := 30) d_Rp_sendToOthers_30 rfl ?_
      obtain ⟨k6, h⟩ := h
      refine ex_getI (pc := 31) d_Rp_sendToOthers_31 rfl rfl (by decide) k6 ?_
      refine ex_iload (pc := 34) d_Rp_sendToOthers_34 rfl ?_
      refine ex_iload_n (pc := 36) d_Rp_sendToOthers_36 rfl ?_
      refine ex_iload_n (pc := 37) d_Rp_sendToOthers_37 rfl ?_
      refine ex_aload (pc := 38) d_Rp_sendToOthers_38 rfl ?_
      refine ex_null (pc := 40) d_Rp_sendToOthers_40 ?_
      refine ex_cVV (as := [_, _, _, _, _, _, _]) (st := [_, _]) (pc := 41) rfl rfl k5 rfl rfl rfl (Nat.le_of_ble_eq_true rfl) (EX.mono h fun r8 M7 h => ?_)
      obtain ⟨rfl, h⟩ := h
      refine ⟨rfl, ?_⟩
      obtain ⟨q9, e10, h⟩ := h
      obtain ⟨k11, h⟩ := h
      refine ex_cVV (as := [_]) (st := []) (pc := 44) e10 rfl k11 rfl rfl rfl (Nat.le_of_ble_eq_true rfl) (EX.mono h fun r13 M12 h => ?_)
      obtain ⟨rfl, h⟩ := h
      refine ⟨rfl, ?_⟩
      refine ex_iinc (ls2 := [_, _, _, _, _, _]) (pc := 47) d_Rp_sendToOthers_47 rfl rfl ?_
      replace h := h _ rfl
      refine ex_goto (tgt := 3) (pc := 50) d_Rp_sendToOthers_50 (by decide) ?_
      exact h
theorem sg_Rp_startPreparing_0 {h0 : Nat} {v1 : Int32} {M : me_M} {Q : Option me_V → me_M → Prop} (h : mKd M h0 = 3 ∧ ∃ q2, (mR M 1132 h0 0) = some q2 ∧ mKd M q2 = 104 ∧ vp_in v1 (mLn M q2) ∧ ∃ q6, (mR M 104 q2 v1.toNatClampNeg) = some q6 ∧ mKd M q6 = 4 ∧ EX eL X_Rp_nextBallot 0 [some (.inr (some h0)), some (.inl (mI M 1194 q6 0)), none] [] M (fun r10 M9 => ∃ x11, r10 = some (.inl x11) ∧ mKd M9 h0 = 3 ∧ ∃ q13, (mR M9 1132 h0 0) = some q13 ∧ mKd M9 q13 = 104 ∧ vp_in v1 (mLn M9 q13) ∧ ∃ q17, (mR M9 104 q13 v1.toNatClampNeg) = some q17 ∧ mKd M9 q17 = 4 ∧ ∀ M20, M20 = mSetI M9 1194 q17 0 x11 → ∀ q22 M21, q22 = mSz M20 → M21 = mNew M20 6 0 8 → mKd M21 h0 = 3 ∧ EX eL X_At_init 0 [some (.inr (some q22)), some (.inl x11), some (.inl 0), some (.inl 0), some (.inl ((mI M21 1130 h0 0) + 1))] [] M21 (fun r26 M25 => r26 = none ∧ ∃ q27, (mR M20 1133 h0 0) = some q27 ∧ mKd M25 q27 = 105 ∧ vp_in v1 (mLn M25 q27) ∧ mKd M25 q22 = 6 ∧ ∀ M31, M31 = mSetR M25 105 q27 v1.toNatClampNeg (some q22) → mKd M31 h0 = 3 ∧ EX eL X_Rp_sendToOthers 0 [some (.inr (some h0)), some (.inl 5), some (.inl v1), some (.inl x11), some (.inr none), none] [] M31 (fun r35 M34 => r35 = none ∧ Q (some (.inl x11)) M34)))) : EX eL X_Rp_startPreparing 0 [some (.inr (some h0)), some (.inl v1), none] [] M Q := by
  refine ex_aload_n (pc := 0) d_Rp_startPreparing_0 rfl ?_
  refine ex_aload_n (pc := 1) d_Rp_startPreparing_1 rfl ?_
  obtain ⟨k1, h⟩ := h
  refine ex_getR (pc := 2) d_Rp_startPreparing_2 rfl rfl k1 ?_
  refine ex_iload_n (pc := 5) d_Rp_startPreparing_5 rfl ?_
  obtain ⟨q2, e3, h⟩ := h
  obtain ⟨k4, h⟩ := h
  obtain ⟨b5, h⟩ := h
  refine ex_aald (pc := 6) d_Rp_startPreparing_6 e3 k4 (by decide) b5 ?_
  obtain ⟨q6, e7, h⟩ := h
  obtain ⟨k8, h⟩ := h
  refine ex_getI (pc := 7) d_Rp_startPreparing_7 e7 rfl (by decide) k8 ?_
  refine ex_cVI (as := [_]) (st := []) (pc := 10) rfl rfl k1 rfl rfl rfl (Nat.le_of_ble_eq_true rfl) (EX.mono h fun r10 M9 h => ?_)
  obtain ⟨x11, rfl, h⟩ := h
  refine ⟨_, rfl, ?_⟩
  refine ex_istore_n (ls2 := [_, _, _]) (pc := 13) d_Rp_startPreparing_13 (Nat.le_of_ble_eq_true rfl) rfl ?_
  refine ex_aload_n (pc := 14) d_Rp_startPreparing_14 rfl ?_
  obtain ⟨k12, h⟩ := h
  refine ex_getR (pc := 15) d_Rp_startPreparing_15 rfl rfl k12 ?_
  refine ex_iload_n (pc := 18) d_Rp_startPreparing_18 rfl ?_
  obtain ⟨q13, e14, h⟩ := h
  obtain ⟨k15, h⟩ := h
  obtain ⟨b16, h⟩ := h
  refine ex_aald (pc := 19) d_Rp_startPreparing_19 e14 k15 (by decide) b16 ?_
  refine ex_iload_n (pc := 20) d_Rp_startPreparing_20 rfl ?_
  obtain ⟨q17, e18, h⟩ := h
  obtain ⟨k19, h⟩ := h
  refine ex_putI (pc := 21) d_Rp_startPreparing_21 e18 rfl k19 ?_
  replace h := h _ rfl
  refine ex_aload_n (pc := 24) d_Rp_startPreparing_24 rfl ?_
  refine ex_getR (pc := 25) d_Rp_startPreparing_25 rfl rfl k12 ?_
  refine ex_iload_n (pc := 28) d_Rp_startPreparing_28 rfl ?_
  refine ex_new (ci := 5) (n := 8) (pc := 29) d_Rp_startPreparing_29 rfl (fun k23 => ?_)
  replace h := h _ _ rfl rfl
  refine ex_dup (pc := 32) d_Rp_startPreparing_32 ?_
  refine ex_iload_n (pc := 33) d_Rp_startPreparing_33 rfl ?_
  refine ex_iconst (w := 0) (pc := 34) d_Rp_startPreparing_34 (by decide) ?_
  refine ex_iconst (w := 0) (pc := 35) d_Rp_startPreparing_35 (by decide) ?_
  refine ex_aload_n (pc := 36) d_Rp_startPreparing_36 rfl ?_
  obtain ⟨k24, h⟩ := h
  refine ex_getI (pc := 37) d_Rp_startPreparing_37 rfl rfl (by decide) k24 ?_
  refine ex_iconst (w := 1) (pc := 40) d_Rp_startPreparing_40 (by decide) ?_
  refine ex_iadd (pc := 41) d_Rp_startPreparing_41 ?_
  refine ex_cVV (as := [_, _, _, _]) (st := [_, _, _]) (pc := 42) rfl rfl k23 rfl rfl rfl (Nat.le_of_ble_eq_true rfl) (EX.mono h fun r26 M25 h => ?_)
  obtain ⟨rfl, h⟩ := h
  refine ⟨rfl, ?_⟩
  obtain ⟨q27, e28, h⟩ := h
  obtain ⟨k29, h⟩ := h
  obtain ⟨b30, h⟩ := h
  obtain ⟨k32, h⟩ := h
  refine ex_aast (pc := 45) d_Rp_startPreparing_45 e28 k29 (by decide) b30 rfl k32 ?_
  replace h := h _ rfl
  refine ex_aload_n (pc := 46) d_Rp_startPreparing_46 rfl ?_
  refine ex_iconst (w := 5) (pc := 47) d_Rp_startPreparing_47 (by decide) ?_
  refine ex_iload_n (pc := 48) d_Rp_startPreparing_48 rfl ?_
  refine ex_iload_n (pc := 49) d_Rp_startPreparing_49 rfl ?_
  refine ex_null (pc := 50) d_Rp_startPreparing_50 ?_
  obtain ⟨k33, h⟩ := h
  refine ex_cVV (as := [_, _, _, _]) (st := []) (pc := 51) rfl rfl k33 rfl rfl rfl (Nat.le_of_ble_eq_true rfl) (EX.mono h fun r35 M34 h => ?_)
  obtain ⟨rfl, h⟩ := h
  refine ⟨rfl, ?_⟩
  refine ex_iload_n (pc := 54) d_Rp_startPreparing_54 rfl ?_
  exact ex_ret_i (pc := 55) d_Rp_startPreparing_55 rfl h
theorem sg_LM_prepare_0 {h0 : Nat} {v1 : Int32} {v2 : Int32} {M : me_M} {Q : Option me_V → me_M → Prop} (h : mKd M h0 = 1 ∧ EX eL X_LM_workingReplica 0 [some (.inr (some h0)), some (.inl v1)] [] M (fun r3 M2 => ∃ a4, r3 = some (.inr a4) ∧ mKd M2 h0 = 1 ∧ EX eL X_LM_entryAt 0 [some (.inr (some h0)), some (.inl v1), some (.inl v2), none] [] M2 (fun r7 M6 => ∃ a8, r7 = some (.inr a8) ∧ ((a4 = none) → Q (some (.inl (-1 : Int32))) M6) ∧ ((¬ a4 = none) → ((a8 = none) → Q (some (.inl (-1 : Int32))) M6) ∧ ((¬ a8 = none) → ∃ q9, a8 = some q9 ∧ mKd M6 q9 = 4 ∧ EX eL X_En_isSettled 0 [some (.inr (some q9))] [] M6 (fun r13 M12 => ∃ x14, r13 = some (.inl x14) ∧ ((x14 = 0) → ∃ q15, a4 = some q15 ∧ mKd M12 q15 = 3 ∧ EX eL X_Rp_startPreparing 0 [some (.inr (some q15)), some (.inl v2), none] [] M12 (fun r19 M18 => ∃ x20, r19 = some (.inl x20) ∧ Q (some (.inl x20)) M18)) ∧ ((¬ x14 = 0) → Q (some (.inl (-1 : Int32))) M12))))))) : EX eL X_LM_prepare 0 [some (.inr (some h0)), some (.inl v1), some (.inl v2), none, none] [] M Q := by
  refine ex_aload_n (pc := 0) d_LM_prepare_0 rfl ?_
  refine ex_iload_n (pc := 1) d_LM_prepare_1 rfl ?_
  obtain ⟨k1, h⟩ := h
  refine ex_cVR (as := [_]) (st := []) (pc := 2) rfl rfl k1 rfl rfl rfl (Nat.le_of_ble_eq_true rfl) (EX.mono h fun r3 M2 h => ?_)
  obtain ⟨a4, rfl, h⟩ := h
  refine ⟨_, rfl, ?_⟩
  refine ex_astore_n (ls2 := [_, _, _, _, _]) (pc := 5) d_LM_prepare_5 (Nat.le_of_ble_eq_true rfl) rfl ?_
  refine ex_aload_n (pc := 6) d_LM_prepare_6 rfl ?_
  refine ex_iload_n (pc := 7) d_LM_prepare_7 rfl ?_
  refine ex_iload_n (pc := 8) d_LM_prepare_8 rfl ?_
  obtain ⟨k5, h⟩ := h
  refine ex_cVR (as := [_, _]) (st := []) (pc := 9) rfl rfl k5 rfl rfl rfl (Nat.le_of_ble_eq_true rfl) (EX.mono h fun r7 M6 h => ?_)
  obtain ⟨a8, rfl, h⟩ := h
  refine ⟨_, rfl, ?_⟩
  refine ex_astore (ls2 := [_, _, _, _, _]) (pc := 12) d_LM_prepare_12 (Nat.le_of_ble_eq_true rfl) rfl ?_
  refine ex_aload_n (pc := 14) d_LM_prepare_14 rfl ?_
  refine ex_ifnull (tgt := 31) (pc := 15) d_LM_prepare_15 (by decide) (fun g => ?_) (fun g => ?_)
  · replace h := h.1 g
    refine ex_iconst (w := (-1 : Int32)) (pc := 31) d_LM_prepare_31 (by decide) ?_
    exact ex_ret_i (pc := 32) d_LM_prepare_32 rfl h
  · replace h := h.2 g
    refine ex_aload (pc := 18) d_LM_prepare_18 rfl ?_
    refine ex_ifnull (tgt := 31) (pc := 20) d_LM_prepare_20 (by decide) (fun g => ?_) (fun g => ?_)
    · replace h := h.1 g
      refine ex_iconst (w := (-1 : Int32)) (pc := 31) d_LM_prepare_31 (by decide) ?_
      exact ex_ret_i (pc := 32) d_LM_prepare_32 rfl h
    · replace h := h.2 g
      refine ex_aload (pc := 23) d_LM_prepare_23 rfl ?_
      obtain ⟨q9, e10, h⟩ := h
      obtain ⟨k11, h⟩ := h
      refine ex_cVI (as := []) (st := []) (pc := 25) e10 rfl k11 rfl rfl rfl (Nat.le_of_ble_eq_true rfl) (EX.mono h fun r13 M12 h => ?_)
      obtain ⟨x14, rfl, h⟩ := h
      refine ⟨_, rfl, ?_⟩
      refine ex_if_eq (tgt := 33) (pc := 28) d_LM_prepare_28 (by decide) (fun g => ?_) (fun g => ?_)
      · replace h := h.1 g
        refine ex_aload_n (pc := 33) d_LM_prepare_33 rfl ?_
        refine ex_iload_n (pc := 34) d_LM_prepare_34 rfl ?_
        obtain ⟨q15, e16, h⟩ := h
        obtain ⟨k17, h⟩ := h
        refine ex_cVI (as := [_]) (st := []) (pc := 35) e16 rfl k17 rfl rfl rfl (Nat.le_of_ble_eq_true rfl) (EX.mono h fun r19 M18 h => ?_)
        obtain ⟨x20, rfl, h⟩ := h
        refine ⟨_, rfl, ?_⟩
        exact ex_ret_i (pc := 38) d_LM_prepare_38 rfl h
      · replace h := h.2 g
        refine ex_iconst (w := (-1 : Int32)) (pc := 31) d_LM_prepare_31 (by decide) ?_
        exact ex_ret_i (pc := 32) d_LM_prepare_32 rfl h
theorem sg_Net_at_0 {h0 : Nat} {v1 : Int32} {M : me_M} {Q : Option me_V → me_M → Prop} (h : ((v1 < 0) → Q (some (.inr none)) M) ∧ ((¬ v1 < 0) → mKd M h0 = 2 ∧ (((mI M 1065 h0 0) ≤ v1) → Q (some (.inr none)) M) ∧ ((¬ (mI M 1065 h0 0) ≤ v1) → ∃ q2, (mR M 1064 h0 0) = some q2 ∧ mKd M q2 = 102 ∧ vp_in v1 (mLn M q2) ∧ Q (some (.inr (mR M 102 q2 v1.toNatClampNeg))) M))) : EX eL X_Net_at 0 [some (.inr (some h0)), some (.inl v1)] [] M Q := by
  refine ex_iload_n (pc := 0) d_Net_at_0 rfl ?_
  refine ex_if_lt (tgt := 21) (pc := 1) d_Net_at_1 (by decide) (fun g => ?_) (fun g => ?_)
  · replace h := h.1 g
    refine ex_null (pc := 21) d_Net_at_21 ?_
    exact ex_ret_a (pc := 22) d_Net_at_22 rfl h
  · replace h := h.2 g
    refine ex_iload_n (pc := 4) d_Net_at_4 rfl ?_
    refine ex_aload_n (pc := 5) d_Net_at_5 rfl ?_
    obtain ⟨k1, h⟩ := h
    refine ex_getI (pc := 6) d_Net_at_6 rfl rfl (by decide) k1 ?_
    refine ex_icmp_ge (tgt := 21) (pc := 9) d_Net_at_9 (by decide) (fun g => ?_) (fun g => ?_)
    · replace h := h.1 g
      refine ex_null (pc := 21) d_Net_at_21 ?_
      exact ex_ret_a (pc := 22) d_Net_at_22 rfl h
    · replace h := h.2 g
      refine ex_aload_n (pc := 12) d_Net_at_12 rfl ?_
      refine ex_getR (pc := 13) d_Net_at_13 rfl rfl k1 ?_
      refine ex_iload_n (pc := 16) d_Net_at_16 rfl ?_
      obtain ⟨q2, e3, h⟩ := h
      obtain ⟨k4, h⟩ := h
      obtain ⟨b5, h⟩ := h
      refine ex_aald (pc := 17) d_Net_at_17 e3 k4 (by decide) b5 ?_
      refine ex_goto (tgt := 22) (pc := 18) d_Net_at_18 (by decide) ?_
      exact ex_ret_a (pc := 22) d_Net_at_22 rfl h
theorem sg_Net_take_0 {h0 : Nat} {v1 : Int32} {M : me_M} {Q : Option me_V → me_M → Prop} (h : mKd M h0 = 2 ∧ EX eL X_Net_at 0 [some (.inr (some h0)), some (.inl v1)] [] M (fun r3 M2 => ∃ a4, r3 = some (.inr a4) ∧ ((¬ a4 = none) → mKd M2 h0 = 2 ∧ ∀ M6, M6 = mSetI M2 1065 h0 0 ((mI M2 1065 h0 0) - 1) → EX eL X_Net_take 24 [some (.inr (some h0)), none, some (.inr a4), some (.inl v1)] [] M6 Q) ∧ ((a4 = none) → Q (some (.inr none)) M2))) : EX eL X_Net_take 0 [some (.inr (some h0)), some (.inl v1), none, none] [] M Q := by
  refine ex_aload_n (pc := 0) d_Net_take_0 rfl ?_
  refine ex_iload_n (pc := 1) d_Net_take_1 rfl ?_
  obtain ⟨k1, h⟩ := h
  refine ex_cVR (as := [_]) (st := []) (pc := 2) rfl rfl k1 rfl rfl rfl (Nat.le_of_ble_eq_true rfl) (EX.mono h fun r3 M2 h => ?_)
  obtain ⟨a4, rfl, h⟩ := h
  refine ⟨_, rfl, ?_⟩
  refine ex_astore_n (ls2 := [_, _, _, _]) (pc := 5) d_Net_take_5 (Nat.le_of_ble_eq_true rfl) rfl ?_
  refine ex_aload_n (pc := 6) d_Net_take_6 rfl ?_
  refine ex_ifnonnull (tgt := 12) (pc := 7) d_Net_take_7 (by decide) (fun g => ?_) (fun g => ?_)
  · replace h := h.1 g
    refine ex_aload_n (pc := 12) d_Net_take_12 rfl ?_
    refine ex_dup (pc := 13) d_Net_take_13 ?_
    obtain ⟨k5, h⟩ := h
    refine ex_getI (pc := 14) d_Net_take_14 rfl rfl (by decide) k5 ?_
    refine ex_iconst (w := 1) (pc := 17) d_Net_take_17 (by decide) ?_
    refine ex_isub (pc := 18) d_Net_take_18 ?_
    refine ex_putI (pc := 19) d_Net_take_19 rfl rfl k5 ?_
    replace h := h _ rfl
    refine ex_iload_n (pc := 22) d_Net_take_22 rfl ?_
    refine ex_istore_n (ls2 := [_, _, _, _]) (pc := 23) d_Net_take_23 (Nat.le_of_ble_eq_true rfl) rfl ?_
    refine ex_drop (k := 1) (ls2 := [_, _, _, _]) rfl ?_
    exact h
  · replace h := h.2 g
    refine ex_null (pc := 10) d_Net_take_10 ?_
    exact ex_ret_a (pc := 11) d_Net_take_11 rfl h
theorem sg_Net_take_24 {h0 : Nat} {a2 : Option Nat} {v3 : Int32} {M : me_M} {Q : Option me_V → me_M → Prop} (h : mKd M h0 = 2 ∧ (((mI M 1065 h0 0) ≤ v3) → ∃ q2, (mR M 1064 h0 0) = some q2 ∧ mKd M q2 = 102 ∧ vp_in (mI M 1065 h0 0) (mLn M q2) ∧ ∀ M6, M6 = mSetR M 102 q2 (mI M 1065 h0 0).toNatClampNeg none → Q (some (.inr a2)) M6) ∧ ((¬ (mI M 1065 h0 0) ≤ v3) → ∃ q7, (mR M 1064 h0 0) = some q7 ∧ mKd M q7 = 102 ∧ vp_in (v3 + 1) (mLn M q7) ∧ vp_in v3 (mLn M q7) ∧ ∃ q13, (mR M 102 q7 (v3 + 1).toNatClampNeg) = some q13 ∧ mKd M q13 = 10 ∧ ∀ M12, M12 = mSetR M 102 q7 v3.toNatClampNeg (some q13) → ∀ x16, x16 = v3 + Int32.ofInt 1 → EX eL X_Net_take 24 [some (.inr (some h0)), none, some (.inr a2), some (.inl x16)] [] M12 Q)) : EX eL X_Net_take 24 [some (.inr (some h0)), none, some (.inr a2), some (.inl v3)] [] M Q := by
  refine ex_iload_n (pc := 24) d_Net_take_24 rfl ?_
  refine ex_aload_n (pc := 25) d_Net_take_25 rfl ?_
  obtain ⟨k1, h⟩ := h
  refine ex_getI (pc := 26) d_Net_take_26 rfl rfl (by decide) k1 ?_
  refine ex_icmp_ge (tgt := 52) (pc := 29) d_Net_take_29 (by decide) (fun g => ?_) (fun g => ?_)
  · replace h := h.1 g
    refine ex_aload_n (pc := 52) d_Net_take_52 rfl ?_
    refine ex_getR (pc := 53) d_Net_take_53 rfl rfl k1 ?_
    refine ex_aload_n (pc := 56) d_Net_take_56 rfl ?_
    refine ex_getI (pc := 57) d_Net_take_57 rfl rfl (by decide) k1 ?_
    refine ex_null (pc := 60) d_Net_take_60 ?_
    obtain ⟨q2, e3, h⟩ := h
    obtain ⟨k4, h⟩ := h
    obtain ⟨b5, h⟩ := h
    refine ex_aastN (pc := 61) d_Net_take_61 e3 k4 (by decide) b5 ?_
    replace h := h _ rfl
    refine ex_aload_n (pc := 62) d_Net_take_62 rfl ?_
    exact ex_ret_a (pc := 63) d_Net_take_63 rfl h
  · replace h := h.2 g
    refine ex_aload_n (pc := 32) d_Net_take_32 rfl ?_
    refine ex_getR (pc := 33) d_Net_take_33 rfl rfl k1 ?_
    refine ex_iload_n (pc := 36) d_Net_take_36 rfl ?_
    refine ex_aload_n (pc := 37) d_Net_take_37 rfl ?_
    refine ex_getR (pc := 38) d_Net_take_38 rfl rfl k1 ?_
    refine ex_iload_n (pc := 41) d_Net_take_41 rfl ?_
    refine ex_iconst (w := 1) (pc := 42) d_Net_take_42 (by decide) ?_
    refine ex_iadd (pc := 43) d_Net_take_43 ?_
    obtain ⟨q7, e8, h⟩ := h
    obtain ⟨k9, h⟩ := h
    obtain ⟨b10, h⟩ := h
    refine ex_aald (pc := 44) d_Net_take_44 e8 k9 (by decide) b10 ?_
    obtain ⟨b11, h⟩ := h
    obtain ⟨q13, e14, h⟩ := h
    obtain ⟨k15, h⟩ := h
    refine ex_aast (pc := 45) d_Net_take_45 e8 k9 (by decide) b11 e14 k15 ?_
    replace h := h _ rfl
    refine ex_iinc (ls2 := [_, _, _, _]) (pc := 46) d_Net_take_46 rfl rfl ?_
    replace h := h _ rfl
    refine ex_goto (tgt := 24) (pc := 49) d_Net_take_49 (by decide) ?_
    exact h
theorem sg_Ms_asksForVote_0 {h0 : Nat} {M : me_M} {Q : Option me_V → me_M → Prop} (h : mKd M h0 = 10 ∧ (((mI M 1576 h0 0) = 0) → Q (some (.inl 1)) M) ∧ ((¬ (mI M 1576 h0 0) = 0) → (((mI M 1576 h0 0) = 2) → Q (some (.inl 1)) M) ∧ ((¬ (mI M 1576 h0 0) = 2) → ((¬ (mI M 1576 h0 0) = 5) → Q (some (.inl 0)) M) ∧ (((mI M 1576 h0 0) = 5) → Q (some (.inl 1)) M)))) : EX eL X_Ms_asksForVote 0 [some (.inr (some h0))] [] M Q := by
  refine ex_aload_n (pc := 0) d_Ms_asksForVote_0 rfl ?_
  obtain ⟨k1, h⟩ := h
  refine ex_getI (pc := 1) d_Ms_asksForVote_1 rfl rfl (by decide) k1 ?_
  refine ex_if_eq (tgt := 23) (pc := 4) d_Ms_asksForVote_4 (by decide) (fun g => ?_) (fun g => ?_)
  · replace h := h.1 g
    refine ex_iconst (w := 1) (pc := 23) d_Ms_asksForVote_23 (by decide) ?_
    refine ex_goto (tgt := 28) (pc := 24) d_Ms_asksForVote_24 (by decide) ?_
    exact ex_ret_z (pc := 28) d_Ms_asksForVote_28 rfl (Or.inr rfl) h
  · replace h := h.2 g
    refine ex_aload_n (pc := 7) d_Ms_asksForVote_7 rfl ?_
    refine ex_getI (pc := 8) d_Ms_asksForVote_8 rfl rfl (by decide) k1 ?_
    refine ex_iconst (w := 2) (pc := 11) d_Ms_asksForVote_11 (by decide) ?_
    refine ex_icmp_eq (tgt := 23) (pc := 12) d_Ms_asksForVote_12 (by decide) (fun g => ?_) (fun g => ?_)
    · replace h := h.1 g
      refine ex_iconst (w := 1) (pc := 23) d_Ms_asksForVote_23 (by decide) ?_
      refine ex_goto (tgt := 28) (pc := 24) d_Ms_asksForVote_24 (by decide) ?_
      exact ex_ret_z (pc := 28) d_Ms_asksForVote_28 rfl (Or.inr rfl) h
    · replace h := h.2 g
      refine ex_aload_n (pc := 15) d_Ms_asksForVote_15 rfl ?_
      refine ex_getI (pc := 16) d_Ms_asksForVote_16 rfl rfl (by decide) k1 ?_
      refine ex_iconst (w := 5) (pc := 19) d_Ms_asksForVote_19 (by decide) ?_
      refine ex_icmp_ne (tgt := 27) (pc := 20) d_Ms_asksForVote_20 (by decide) (fun g => ?_) (fun g => ?_)
      · replace h := h.1 g
        refine ex_iconst (w := 0) (pc := 27) d_Ms_asksForVote_27 (by decide) ?_
        exact ex_ret_z (pc := 28) d_Ms_asksForVote_28 rfl (Or.inl rfl) h
      · replace h := h.2 g
        refine ex_iconst (w := 1) (pc := 23) d_Ms_asksForVote_23 (by decide) ?_
        refine ex_goto (tgt := 28) (pc := 24) d_Ms_asksForVote_24 (by decide) ?_
        exact ex_ret_z (pc := 28) d_Ms_asksForVote_28 rfl (Or.inr rfl) h
theorem sg_Rp_sendBack_0 {h0 : Nat} {a1 : Option Nat} {v2 : Int32} {a3 : Option Nat} {a4 : Option Nat} {M : me_M} {Q : Option me_V → me_M → Prop} (h : mKd M h0 = 3 ∧ ∀ q3 M2, q3 = mSz M → M2 = mNew M 10 0 7 → mKd M2 h0 = 3 ∧ ∃ q6, a1 = some q6 ∧ mKd M2 q6 = 10 ∧ EX eL X_Ms_init 0 [some (.inr (some q3)), some (.inl v2), some (.inl (mI M2 1128 h0 0)), some (.inl (mI M2 1577 q6 0)), some (.inl (mI M2 1579 q6 0)), some (.inl (mI M2 1580 q6 0)), some (.inr a3), some (.inr a4)] [] M2 (fun r10 M9 => r10 = none ∧ ∃ q11, (mR M 1131 h0 0) = some q11 ∧ mKd M9 q11 = 2 ∧ EX eL X_Net_send 0 [some (.inr (some q11)), some (.inr (some q3))] [] M9 (fun r15 M14 => r15 = none ∧ Q none M14))) : EX eL X_Rp_sendBack 0 [some (.inr (some h0)), some (.inr a1), some (.inl v2), some (.inr a3), some (.inr a4)] [] M Q := by
  refine ex_aload_n (pc := 0) d_Rp_sendBack_0 rfl ?_
  obtain ⟨k1, h⟩ := h
  refine ex_getR (pc := 1) d_Rp_sendBack_1 rfl rfl k1 ?_
  refine ex_new (ci := 9) (n := 7) (pc := 4) d_Rp_sendBack_4 rfl (fun k4 => ?_)
  replace h := h _ _ rfl rfl
  refine ex_dup (pc := 7) d_Rp_sendBack_7 ?_
  refine ex_iload_n (pc := 8) d_Rp_sendBack_8 rfl ?_
  refine ex_aload_n (pc := 9) d_Rp_sendBack_9 rfl ?_
  obtain ⟨k5, h⟩ := h
  refine ex_getI (pc := 10) d_Rp_sendBack_10 rfl rfl (by decide) k5 ?_
  refine ex_aload_n (pc := 13) d_Rp_sendBack_13 rfl ?_
  obtain ⟨q6, e7, h⟩ := h
  obtain ⟨k8, h⟩ := h
  refine ex_getI (pc := 14) d_Rp_sendBack_14 e7 rfl (by decide) k8 ?_
  refine ex_aload_n (pc := 17) d_Rp_sendBack_17 rfl ?_
  refine ex_getI (pc := 18) d_Rp_sendBack_18 e7 rfl (by decide) k8 ?_
  refine ex_aload_n (pc := 21) d_Rp_sendBack_21 rfl ?_
  refine ex_getI (pc := 22) d_Rp_sendBack_22 e7 rfl (by decide) k8 ?_
  refine ex_aload_n (pc := 25) d_Rp_sendBack_25 rfl ?_
  refine ex_aload (pc := 26) d_Rp_sendBack_26 rfl ?_
  refine ex_cVV (as := [_, _, _, _, _, _, _]) (st := [_, _]) (pc := 28) rfl rfl k4 rfl rfl rfl (Nat.le_of_ble_eq_true rfl) (EX.mono h fun r10 M9 h => ?_)
  obtain ⟨rfl, h⟩ := h
  refine ⟨rfl, ?_⟩
  obtain ⟨q11, e12, h⟩ := h
  obtain ⟨k13, h⟩ := h
  refine ex_cVV (as := [_]) (st := []) (pc := 31) e12 rfl k13 rfl rfl rfl (Nat.le_of_ble_eq_true rfl) (EX.mono h fun r15 M14 h => ?_)
  obtain ⟨rfl, h⟩ := h
  refine ⟨rfl, ?_⟩
  exact ex_ret_v (pc := 34) d_Rp_sendBack_34 rfl h
theorem sg_En_vote_0 {h0 : Nat} {v1 : Int32} {a2 : Option Nat} {v3 : Int32} {M : me_M} {Q : Option me_V → me_M → Prop} (h : mKd M h0 = 4 ∧ ∀ M2, M2 = mSetI M 1194 h0 0 v3 → ∀ M3, M3 = mSetI M2 1195 h0 0 v3 → EX eL X_En_become 0 [some (.inr (some h0)), some (.inl v1), some (.inr a2)] [] M3 (fun r5 M4 => r5 = none ∧ Q none M4)) : EX eL X_En_vote 0 [some (.inr (some h0)), some (.inl v1), some (.inr a2), some (.inl v3)] [] M Q := by
  refine ex_aload_n (pc := 0) d_En_vote_0 rfl ?_
  refine ex_iload_n (pc := 1) d_En_vote_1 rfl ?_
  obtain ⟨k1, h⟩ := h
  refine ex_putI (pc := 2) d_En_vote_2 rfl rfl k1 ?_
  replace h := h _ rfl
  refine ex_aload_n (pc := 5) d_En_vote_5 rfl ?_
  refine ex_iload_n (pc := 6) d_En_vote_6 rfl ?_
  refine ex_putI (pc := 7) d_En_vote_7 rfl rfl k1 ?_
  replace h := h _ rfl
  refine ex_aload_n (pc := 10) d_En_vote_10 rfl ?_
  refine ex_iload_n (pc := 11) d_En_vote_11 rfl ?_
  refine ex_aload_n (pc := 12) d_En_vote_12 rfl ?_
  refine ex_cVV (as := [_, _]) (st := []) (pc := 13) rfl rfl k1 rfl rfl rfl (Nat.le_of_ble_eq_true rfl) (EX.mono h fun r5 M4 h => ?_)
  obtain ⟨rfl, h⟩ := h
  refine ⟨rfl, ?_⟩
  exact ex_ret_v (pc := 16) d_En_vote_16 rfl h
theorem sg_Rp_onPreaccept_0 {h0 : Nat} {a1 : Option Nat} {a2 : Option Nat} {M : me_M} {Q : Option me_V → me_M → Prop} (h : ∃ q1, a2 = some q1 ∧ mKd M q1 = 4 ∧ ((¬ (mI M 1192 q1 0) = 2) → ∃ q4, a1 = some q4 ∧ mKd M q4 = 10 ∧ (((mI M 1580 q4 0) < (mI M 1194 q1 0)) → Q none M) ∧ ((¬ (mI M 1580 q4 0) < (mI M 1194 q1 0)) → mKd M h0 = 3 ∧ EX eL X_Rp_fitted 0 [some (.inr (some h0)), some (.inl (mI M 1579 q4 0)), some (.inr (mR M 1581 q4 0)), none, none, none, none] [] M (fun r9 M8 => ∃ a10, r9 = some (.inr a10) ∧ mKd M8 q4 = 10 ∧ mKd M8 q1 = 4 ∧ EX eL X_En_vote 0 [some (.inr (some q1)), some (.inl 1), some (.inr a10), some (.inl (mI M8 1580 q4 0))] [] M8 (fun r14 M13 => r14 = none ∧ mKd M13 q1 = 4 ∧ mKd M13 h0 = 3 ∧ EX eL X_Rp_sendBack 0 [some (.inr (some h0)), some (.inr a1), some (.inl 1), some (.inr (mR M13 1193 q1 0)), some (.inr none)] [] M13 (fun r18 M17 => r18 = none ∧ Q none M17))))) ∧ (((mI M 1192 q1 0) = 2) → ∃ q19, a1 = some q19 ∧ mKd M q19 = 10 ∧ ((¬ (mI M 1195 q1 0) = (mI M 1580 q19 0)) → (((mI M 1580 q19 0) < (mI M 1194 q1 0)) → Q none M) ∧ ((¬ (mI M 1580 q19 0) < (mI M 1194 q1 0)) → mKd M h0 = 3 ∧ EX eL X_Rp_fitted 0 [some (.inr (some h0)), some (.inl (mI M 1579 q19 0)), some (.inr (mR M 1581 q19 0)), none, none, none, none] [] M (fun r24 M23 => ∃ a25, r24 = some (.inr a25) ∧ mKd M23 q19 = 10 ∧ mKd M23 q1 = 4 ∧ EX eL X_En_vote 0 [some (.inr (some q1)), some (.inl 1), some (.inr a25), some (.inl (mI M23 1580 q19 0))] [] M23 (fun r29 M28 => r29 = none ∧ mKd M28 q1 = 4 ∧ mKd M28 h0 = 3 ∧ EX eL X_Rp_sendBack 0 [some (.inr (some h0)), some (.inr a1), some (.inl 1), some (.inr (mR M28 1193 q1 0)), some (.inr none)] [] M28 (fun r33 M32 => r33 = none ∧ Q none M32))))) ∧ (((mI M 1195 q1 0) = (mI M 1580 q19 0)) → (((mI M 1580 q19 0) < (mI M 1194 q1 0)) → Q none M) ∧ ((¬ (mI M 1580 q19 0) < (mI M 1194 q1 0)) → Q none M)))) : EX eL X_Rp_onPreaccept 0 [some (.inr (some h0)), some (.inr a1), some (.inr a2), none] [] M Q := by
  refine ex_aload_n (pc := 0) d_Rp_onPreaccept_0 rfl ?_
  obtain ⟨q1, e2, h⟩ := h
  obtain ⟨k3, h⟩ := h
  refine ex_getI (pc := 1) d_Rp_onPreaccept_1 e2 rfl (by decide) k3 ?_
  refine ex_iconst (w := 2) (pc := 4) d_Rp_onPreaccept_4 (by decide) ?_
  refine ex_icmp_ne (tgt := 23) (pc := 5) d_Rp_onPreaccept_5 (by decide) (fun g => ?_) (fun g => ?_)
  · replace h := h.1 g
    refine ex_iconst (w := 0) (pc := 23) d_Rp_onPreaccept_23 (by decide) ?_
    refine ex_istore_n (ls2 := [_, _, _, _]) (pc := 24) d_Rp_onPreaccept_24 (Nat.le_of_ble_eq_true rfl) rfl ?_
    refine ex_aload_n (pc := 25) d_Rp_onPreaccept_25 rfl ?_
    obtain ⟨q4, e5, h⟩ := h
    obtain ⟨k6, h⟩ := h
    refine ex_getI (pc := 26) d_Rp_onPreaccept_26 e5 rfl (by decide) k6 ?_
    refine ex_aload_n (pc := 29) d_Rp_onPreaccept_29 rfl ?_
    refine ex_getI (pc := 30) d_Rp_onPreaccept_30 e2 rfl (by decide) k3 ?_
    refine ex_icmp_lt (tgt := 40) (pc := 33) d_Rp_onPreaccept_33 (by decide) (fun g => ?_) (fun g => ?_)
    · replace h := h.1 g
      exact ex_ret_v (pc := 40) d_Rp_onPreaccept_40 rfl h
    · replace h := h.2 g
      refine ex_iload_n (pc := 36) d_Rp_onPreaccept_36 rfl ?_
      refine ex_if_eq (tgt := 41) (pc := 37) d_Rp_onPreaccept_37 (by decide) (fun _ => ?_) (fun g => absurd g (by decide))
      refine ex_aload_n (pc := 41) d_Rp_onPreaccept_41 rfl ?_
      refine ex_iconst (w := 1) (pc := 42) d_Rp_onPreaccept_42 (by decide) ?_
      refine ex_aload_n (pc := 43) d_Rp_onPreaccept_43 rfl ?_
      refine ex_aload_n (pc := 44) d_Rp_onPreaccept_44 rfl ?_
      refine ex_getI (pc := 45) d_Rp_onPreaccept_45 e5 rfl (by decide) k6 ?_
      refine ex_aload_n (pc := 48) d_Rp_onPreaccept_48 rfl ?_
      refine ex_getR (pc := 49) d_Rp_onPreaccept_49 e5 rfl k6 ?_
      obtain ⟨k7, h⟩ := h
      refine ex_cVR (as := [_, _]) (st := [_, _]) (pc := 52) rfl rfl k7 rfl rfl rfl (Nat.le_of_ble_eq_true rfl) (EX.mono h fun r9 M8 h => ?_)
      obtain ⟨a10, rfl, h⟩ := h
      refine ⟨_, rfl, ?_⟩
      refine ex_aload_n (pc := 55) d_Rp_onPreaccept_55 rfl ?_
      obtain ⟨k11, h⟩ := h
      refine ex_getI (pc := 56) d_Rp_onPreaccept_56 e5 rfl (by decide) k11 ?_
      obtain ⟨k12, h⟩ := h
      refine ex_cVV (as := [_, _, _]) (st := []) (pc := 59) e2 rfl k12 rfl rfl rfl (Nat.le_of_ble_eq_true rfl) (EX.mono h fun r14 M13 h => ?_)
      obtain ⟨rfl, h⟩ := h
      refine ⟨rfl, ?_⟩
      refine ex_aload_n (pc := 62) d_Rp_onPreaccept_62 rfl ?_
      refine ex_aload_n (pc := 63) d_Rp_onPreaccept_63 rfl ?_
      refine ex_iconst (w := 1) (pc := 64) d_Rp_onPreaccept_64 (by decide) ?_
      refine ex_aload_n (pc := 65) d_Rp_onPreaccept_65 rfl ?_
      obtain ⟨k15, h⟩ := h
      refine ex_getR (pc := 66) d_Rp_onPreaccept_66 e2 rfl k15 ?_
      refine ex_null (pc := 69) d_Rp_onPreaccept_69 ?_
      obtain ⟨k16, h⟩ := h
      refine ex_cVV (as := [_, _, _, _]) (st := []) (pc := 70) rfl rfl k16 rfl rfl rfl (Nat.le_of_ble_eq_true rfl) (EX.mono h fun r18 M17 h => ?_)
      obtain ⟨rfl, h⟩ := h
      refine ⟨rfl, ?_⟩
      exact ex_ret_v (pc := 73) d_Rp_onPreaccept_73 rfl h
  · replace h := h.2 g
    refine ex_aload_n (pc := 8) d_Rp_onPreaccept_8 rfl ?_
    refine ex_getI (pc := 9) d_Rp_onPreaccept_9 e2 rfl (by decide) k3 ?_
    refine ex_aload_n (pc := 12) d_Rp_onPreaccept_12 rfl ?_
    obtain ⟨q19, e20, h⟩ := h
    obtain ⟨k21, h⟩ := h
    refine ex_getI (pc := 13) d_Rp_onPreaccept_13 e20 rfl (by decide) k21 ?_
    refine ex_icmp_ne (tgt := 23) (pc := 16) d_Rp_onPreaccept_16 (by decide) (fun g => ?_) (fun g => ?_)
    · replace h := h.1 g
      refine ex_iconst (w := 0) (pc := 23) d_Rp_onPreaccept_23 (by decide) ?_
      refine ex_istore_n (ls2 := [_, _, _, _]) (pc := 24) d_Rp_onPreaccept_24 (Nat.le_of_ble_eq_true rfl) rfl ?_
      refine ex_aload_n (pc := 25) d_Rp_onPreaccept_25 rfl ?_
      refine ex_getI (pc := 26) d_Rp_onPreaccept_26 e20 rfl (by decide) k21 ?_
      refine ex_aload_n (pc := 29) d_Rp_onPreaccept_29 rfl ?_
      refine ex_getI (pc := 30) d_Rp_onPreaccept_30 e2 rfl (by decide) k3 ?_
      refine ex_icmp_lt (tgt := 40) (pc := 33) d_Rp_onPreaccept_33 (by decide) (fun g => ?_) (fun g => ?_)
      · replace h := h.1 g
        exact ex_ret_v (pc := 40) d_Rp_onPreaccept_40 rfl h
      · replace h := h.2 g
        refine ex_iload_n (pc := 36) d_Rp_onPreaccept_36 rfl ?_
        refine ex_if_eq (tgt := 41) (pc := 37) d_Rp_onPreaccept_37 (by decide) (fun _ => ?_) (fun g => absurd g (by decide))
        refine ex_aload_n (pc := 41) d_Rp_onPreaccept_41 rfl ?_
        refine ex_iconst (w := 1) (pc := 42) d_Rp_onPreaccept_42 (by decide) ?_
        refine ex_aload_n (pc := 43) d_Rp_onPreaccept_43 rfl ?_
        refine ex_aload_n (pc := 44) d_Rp_onPreaccept_44 rfl ?_
        refine ex_getI (pc := 45) d_Rp_onPreaccept_45 e20 rfl (by decide) k21 ?_
        refine ex_aload_n (pc := 48) d_Rp_onPreaccept_48 rfl ?_
        refine ex_getR (pc := 49) d_Rp_onPreaccept_49 e20 rfl k21 ?_
        obtain ⟨k22, h⟩ := h
        refine ex_cVR (as := [_, _]) (st := [_, _]) (pc := 52) rfl rfl k22 rfl rfl rfl (Nat.le_of_ble_eq_true rfl) (EX.mono h fun r24 M23 h => ?_)
        obtain ⟨a25, rfl, h⟩ := h
        refine ⟨_, rfl, ?_⟩
        refine ex_aload_n (pc := 55) d_Rp_onPreaccept_55 rfl ?_
        obtain ⟨k26, h⟩ := h
        refine ex_getI (pc := 56) d_Rp_onPreaccept_56 e20 rfl (by decide) k26 ?_
        obtain ⟨k27, h⟩ := h
        refine ex_cVV (as := [_, _, _]) (st := []) (pc := 59) e2 rfl k27 rfl rfl rfl (Nat.le_of_ble_eq_true rfl) (EX.mono h fun r29 M28 h => ?_)
        obtain ⟨rfl, h⟩ := h
        refine ⟨rfl, ?_⟩
        refine ex_aload_n (pc := 62) d_Rp_onPreaccept_62 rfl ?_
        refine ex_aload_n (pc := 63) d_Rp_onPreaccept_63 rfl ?_
        refine ex_iconst (w := 1) (pc := 64) d_Rp_onPreaccept_64 (by decide) ?_
        refine ex_aload_n (pc := 65) d_Rp_onPreaccept_65 rfl ?_
        obtain ⟨k30, h⟩ := h
        refine ex_getR (pc := 66) d_Rp_onPreaccept_66 e2 rfl k30 ?_
        refine ex_null (pc := 69) d_Rp_onPreaccept_69 ?_
        obtain ⟨k31, h⟩ := h
        refine ex_cVV (as := [_, _, _, _]) (st := []) (pc := 70) rfl rfl k31 rfl rfl rfl (Nat.le_of_ble_eq_true rfl) (EX.mono h fun r33 M32 h => ?_)
        obtain ⟨rfl, h⟩ := h
        refine ⟨rfl, ?_⟩
        exact ex_ret_v (pc := 73) d_Rp_onPreaccept_73 rfl h
    · replace h := h.2 g
      refine ex_iconst (w := 1) (pc := 19) d_Rp_onPreaccept_19 (by decide) ?_
      refine ex_goto (tgt := 24) (pc := 20) d_Rp_onPreaccept_20 (by decide) ?_
      refine ex_istore_n (ls2 := [_, _, _, _]) (pc := 24) d_Rp_onPreaccept_24 (Nat.le_of_ble_eq_true rfl) rfl ?_
      refine ex_aload_n (pc := 25) d_Rp_onPreaccept_25 rfl ?_
      refine ex_getI (pc := 26) d_Rp_onPreaccept_26 e20 rfl (by decide) k21 ?_
      refine ex_aload_n (pc := 29) d_Rp_onPreaccept_29 rfl ?_
      refine ex_getI (pc := 30) d_Rp_onPreaccept_30 e2 rfl (by decide) k3 ?_
      refine ex_icmp_lt (tgt := 40) (pc := 33) d_Rp_onPreaccept_33 (by decide) (fun g => ?_) (fun g => ?_)
      · replace h := h.1 g
        exact ex_ret_v (pc := 40) d_Rp_onPreaccept_40 rfl h
      · replace h := h.2 g
        refine ex_iload_n (pc := 36) d_Rp_onPreaccept_36 rfl ?_
        refine ex_if_eq (tgt := 41) (pc := 37) d_Rp_onPreaccept_37 (by decide) (fun g => absurd g (by decide)) (fun _ => ?_)
        exact ex_ret_v (pc := 40) d_Rp_onPreaccept_40 rfl h
theorem sg_Rp_liveAttempt_0 {h0 : Nat} {a1 : Option Nat} {v2 : Int32} {M : me_M} {Q : Option me_V → me_M → Prop} (h : mKd M h0 = 3 ∧ ∃ q2, a1 = some q2 ∧ mKd M q2 = 10 ∧ ∃ q5, (mR M 1133 h0 0) = some q5 ∧ mKd M q5 = 105 ∧ vp_in (mI M 1579 q2 0) (mLn M q5) ∧ ∃ q9, (mR M 1132 h0 0) = some q9 ∧ mKd M q9 = 104 ∧ vp_in (mI M 1579 q2 0) (mLn M q9) ∧ (((mR M 105 q5 (mI M 1579 q2 0).toNatClampNeg) = none) → Q (some (.inr none)) M) ∧ ((¬ (mR M 105 q5 (mI M 1579 q2 0).toNatClampNeg) = none) → ∃ q13, (mR M 105 q5 (mI M 1579 q2 0).toNatClampNeg) = some q13 ∧ mKd M q13 = 6 ∧ ((¬ (mI M 1323 q13 0) = v2) → Q (some (.inr none)) M) ∧ (((mI M 1323 q13 0) = v2) → (((mI M 1320 q13 0) = (mI M 1580 q2 0)) → ∃ q16, (mR M 104 q9 (mI M 1579 q2 0).toNatClampNeg) = some q16 ∧ mKd M q16 = 4 ∧ ((¬ (mI M 1320 q13 0) = (mI M 1194 q16 0)) → Q (some (.inr none)) M) ∧ (((mI M 1320 q13 0) = (mI M 1194 q16 0)) → EX eL X_En_isSettled 0 [some (.inr (some q16))] [] M (fun r20 M19 => ∃ x21, r20 = some (.inl x21) ∧ ((¬ x21 = 0) → Q (some (.inr none)) M19) ∧ ((x21 = 0) → Q (some (.inr (mR M 105 q5 (mI M 1579 q2 0).toNatClampNeg))) M19)))) ∧ ((¬ (mI M 1320 q13 0) = (mI M 1580 q2 0)) → Q (some (.inr none)) M)))) : EX eL X_Rp_liveAttempt 0 [some (.inr (some h0)), some (.inr a1), some (.inl v2), none, none] [] M Q := by
  refine ex_aload_n (pc := 0) d_Rp_liveAttempt_0 rfl ?_
  obtain ⟨k1, h⟩ := h
  refine ex_getR (pc := 1) d_Rp_liveAttempt_1 rfl rfl k1 ?_
  refine ex_aload_n (pc := 4) d_Rp_liveAttempt_4 rfl ?_
  obtain ⟨q2, e3, h⟩ := h
  obtain ⟨k4, h⟩ := h
  refine ex_getI (pc := 5) d_Rp_liveAttempt_5 e3 rfl (by decide) k4 ?_
  obtain ⟨q5, e6, h⟩ := h
  obtain ⟨k7, h⟩ := h
  obtain ⟨b8, h⟩ := h
  refine ex_aald (pc := 8) d_Rp_liveAttempt_8 e6 k7 (by decide) b8 ?_
  refine ex_astore_n (ls2 := [_, _, _, _, _]) (pc := 9) d_Rp_liveAttempt_9 (Nat.le_of_ble_eq_true rfl) rfl ?_
  refine ex_aload_n (pc := 10) d_Rp_liveAttempt_10 rfl ?_
  refine ex_getR (pc := 11) d_Rp_liveAttempt_11 rfl rfl k1 ?_
  refine ex_aload_n (pc := 14) d_Rp_liveAttempt_14 rfl ?_
  refine ex_getI (pc := 15) d_Rp_liveAttempt_15 e3 rfl (by decide) k4 ?_
  obtain ⟨q9, e10, h⟩ := h
  obtain ⟨k11, h⟩ := h
  obtain ⟨b12, h⟩ := h
  refine ex_aald (pc := 18) d_Rp_liveAttempt_18 e10 k11 (by decide) b12 ?_
  refine ex_astore (ls2 := [_, _, _, _, _]) (pc := 19) d_Rp_liveAttempt_19 (Nat.le_of_ble_eq_true rfl) rfl ?_
  refine ex_aload_n (pc := 21) d_Rp_liveAttempt_21 rfl ?_
  refine ex_ifnull (tgt := 44) (pc := 22) d_Rp_liveAttempt_22 (by decide) (fun g => ?_) (fun g => ?_)
  · replace h := h.1 g
    refine ex_null (pc := 44) d_Rp_liveAttempt_44 ?_
    exact ex_ret_a (pc := 45) d_Rp_liveAttempt_45 rfl h
  · replace h := h.2 g
    refine ex_aload_n (pc := 25) d_Rp_liveAttempt_25 rfl ?_
    obtain ⟨q13, e14, h⟩ := h
    obtain ⟨k15, h⟩ := h
    refine ex_getI (pc := 26) d_Rp_liveAttempt_26 e14 rfl (by decide) k15 ?_
    refine ex_iload_n (pc := 29) d_Rp_liveAttempt_29 rfl ?_
    refine ex_icmp_ne (tgt := 44) (pc := 30) d_Rp_liveAttempt_30 (by decide) (fun g => ?_) (fun g => ?_)
    · replace h := h.1 g
      refine ex_null (pc := 44) d_Rp_liveAttempt_44 ?_
      exact ex_ret_a (pc := 45) d_Rp_liveAttempt_45 rfl h
    · replace h := h.2 g
      refine ex_aload_n (pc := 33) d_Rp_liveAttempt_33 rfl ?_
      refine ex_getI (pc := 34) d_Rp_liveAttempt_34 e14 rfl (by decide) k15 ?_
      refine ex_aload_n (pc := 37) d_Rp_liveAttempt_37 rfl ?_
      refine ex_getI (pc := 38) d_Rp_liveAttempt_38 e3 rfl (by decide) k4 ?_
      refine ex_icmp_eq (tgt := 46) (pc := 41) d_Rp_liveAttempt_41 (by decide) (fun g => ?_) (fun g => ?_)
      · replace h := h.1 g
        refine ex_aload_n (pc := 46) d_Rp_liveAttempt_46 rfl ?_
        refine ex_getI (pc := 47) d_Rp_liveAttempt_47 e14 rfl (by decide) k15 ?_
        refine ex_aload (pc := 50) d_Rp_liveAttempt_50 rfl ?_
        obtain ⟨q16, e17, h⟩ := h
        obtain ⟨k18, h⟩ := h
        refine ex_getI (pc := 52) d_Rp_liveAttempt_52 e17 rfl (by decide) k18 ?_
        refine ex_icmp_ne (tgt := 70) (pc := 55) d_Rp_liveAttempt_55 (by decide) (fun g => ?_) (fun g => ?_)
        · replace h := h.1 g
          refine ex_null (pc := 70) d_Rp_liveAttempt_70 ?_
          exact ex_ret_a (pc := 71) d_Rp_liveAttempt_71 rfl h
        · replace h := h.2 g
          refine ex_aload (pc := 58) d_Rp_liveAttempt_58 rfl ?_
          refine ex_cVI (as := []) (st := []) (pc := 60) e17 rfl k18 rfl rfl rfl (Nat.le_of_ble_eq_true rfl) (EX.mono h fun r20 M19 h => ?_)
          obtain ⟨x21, rfl, h⟩ := h
          refine ⟨_, rfl, ?_⟩
          refine ex_if_ne (tgt := 70) (pc := 63) d_Rp_liveAttempt_63 (by decide) (fun g => ?_) (fun g => ?_)
          · replace h := h.1 g
            refine ex_null (pc := 70) d_Rp_liveAttempt_70 ?_
            exact ex_ret_a (pc := 71) d_Rp_liveAttempt_71 rfl h
          · replace h := h.2 g
            refine ex_aload_n (pc := 66) d_Rp_liveAttempt_66 rfl ?_
            refine ex_goto (tgt := 71) (pc := 67) d_Rp_liveAttempt_67 (by decide) ?_
            exact ex_ret_a (pc := 71) d_Rp_liveAttempt_71 rfl h
      · replace h := h.2 g
        refine ex_null (pc := 44) d_Rp_liveAttempt_44 ?_
        exact ex_ret_a (pc := 45) d_Rp_liveAttempt_45 rfl h
