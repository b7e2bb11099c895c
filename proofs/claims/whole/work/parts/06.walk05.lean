theorem sg_Md_afterPromise_0 {h0 : Nat} {v1 : Int32} {v2 : Int32} {M : me_M} {Q : Option me_V → me_M → Prop} (h : ∀ x1, x1 = ((30 * v1) + v2) → ∀ x2, x2 = (4 * x1) → mKd M h0 = 11 ∧ ∃ q4, (mR M 1658 h0 0) = some q4 ∧ mKd M q4 = 100 ∧ vp_in x1 (mLn M q4) ∧ ∀ x8, x8 = (x2 + (mI M 100 q4 x1.toNatClampNeg)) → ∃ q9, (mR M 1659 h0 0) = some q9 ∧ mKd M q9 = 100 ∧ vp_in x8 (mLn M q9) ∧ ∀ M13, M13 = mSetI M 100 q9 x8.toNatClampNeg v1 → ∃ q14, (mR M13 1647 h0 0) = some q14 ∧ mKd M13 q14 = 100 ∧ vp_in x1 (mLn M13 q14) ∧ ∃ q18, (mR M13 1661 h0 0) = some q18 ∧ mKd M13 q18 = 100 ∧ vp_in x8 (mLn M13 q18) ∧ ∀ M22, M22 = mSetI M13 100 q18 x8.toNatClampNeg (mI M13 100 q14 x1.toNatClampNeg) → ∃ q23, (mR M22 1648 h0 0) = some q23 ∧ mKd M22 q23 = 100 ∧ vp_in x1 (mLn M22 q23) ∧ ∃ q27, (mR M22 1662 h0 0) = some q27 ∧ mKd M22 q27 = 100 ∧ vp_in x8 (mLn M22 q27) ∧ ∀ M31, M31 = mSetI M22 100 q27 x8.toNatClampNeg (mI M22 100 q23 x1.toNatClampNeg) → ∃ q32, (mR M31 1649 h0 0) = some q32 ∧ mKd M31 q32 = 100 ∧ vp_in x1 (mLn M31 q32) ∧ ∃ q36, (mR M31 1663 h0 0) = some q36 ∧ mKd M31 q36 = 100 ∧ vp_in x8 (mLn M31 q36) ∧ ∀ M40, M40 = mSetI M31 100 q36 x8.toNatClampNeg (mI M31 100 q32 x1.toNatClampNeg) → ∃ q41, (mR M40 1650 h0 0) = some q41 ∧ mKd M40 q41 = 100 ∧ vp_in x1 (mLn M40 q41) ∧ ∃ q45, (mR M40 1664 h0 0) = some q45 ∧ mKd M40 q45 = 100 ∧ vp_in x8 (mLn M40 q45) ∧ ∀ M49, M49 = mSetI M40 100 q45 x8.toNatClampNeg (mI M40 100 q41 x1.toNatClampNeg) → ∃ q50, (mR M49 1646 h0 0) = some q50 ∧ mKd M49 q50 = 100 ∧ vp_in x1 (mLn M49 q50) ∧ ∃ q54, (mR M49 1660 h0 0) = some q54 ∧ mKd M49 q54 = 100 ∧ vp_in x8 (mLn M49 q54) ∧ ∀ M58, M58 = mSetI M49 100 q54 x8.toNatClampNeg (mI M49 100 q50 x1.toNatClampNeg) → ∃ q59, (mR M58 1652 h0 0) = some q59 ∧ mKd M58 q59 = 100 ∧ vp_in x1 (mLn M58 q59) ∧ ∃ q63, (mR M58 1665 h0 0) = some q63 ∧ mKd M58 q63 = 100 ∧ vp_in x8 (mLn M58 q63) ∧ ∀ M67, M67 = mSetI M58 100 q63 x8.toNatClampNeg (mI M58 100 q59 x1.toNatClampNeg) → EX eL X_Md_accepted 0 [some (.inr (some h0)), some (.inl x2), some (.inl ((mI M67 1641 h0 0) + 1)), none, none] [] M67 (fun r69 M68 => ∃ x70, r69 = some (.inl x70) ∧ ((0 ≤ x70) → ((x70 < 0) → mKd M68 h0 = 11 ∧ EX eL X_Md_preaccepted 0 [some (.inr (some h0)), some (.inl x2), some (.inl ((mI M68 1641 h0 0) + 1)), none] [] M68 (fun r73 M72 => ∃ x74, r73 = some (.inl x74) ∧ ((0 ≤ x74) → mKd M72 h0 = 11 ∧ ∃ q76, (mR M72 1661 h0 0) = some q76 ∧ mKd M72 q76 = 100 ∧ vp_in x74 (mLn M72 q76) ∧ ∃ q80, (mR M72 1662 h0 0) = some q80 ∧ mKd M72 q80 = 100 ∧ vp_in x74 (mLn M72 q80) ∧ EX eL X_Md_fit 0 [some (.inr (some h0)), some (.inl v1), some (.inl v2), some (.inl (mI M72 100 q76 x74.toNatClampNeg)), some (.inl (mI M72 100 q80 x74.toNatClampNeg)), some (.inl 1), some (.inl 0), none, none, none] [] M72 (fun r85 M84 => r85 = none ∧ mKd M84 h0 = 11 ∧ ∃ q87, (mR M84 1657 h0 0) = some q87 ∧ mKd M84 q87 = 100 ∧ vp_in x1 (mLn M84 q87) ∧ ∃ q91, (mR M84 1652 h0 0) = some q91 ∧ mKd M84 q91 = 100 ∧ vp_in x1 (mLn M84 q91) ∧ ∀ M95, M95 = mSetI M84 100 q91 x1.toNatClampNeg (mI M84 100 q87 x1.toNatClampNeg) → ∃ q96, (mR M95 1657 h0 0) = some q96 ∧ mKd M95 q96 = 100 ∧ vp_in x1 (mLn M95 q96) ∧ EX eL X_Md_start 0 [some (.inr (some h0)), some (.inl x1), some (.inl 1), some (.inl (mI M95 100 q96 x1.toNatClampNeg))] [] M95 (fun r101 M100 => r101 = none ∧ mKd M100 h0 = 11 ∧ ∃ q103, (mR M100 1657 h0 0) = some q103 ∧ mKd M100 q103 = 100 ∧ vp_in x1 (mLn M100 q103) ∧ EX eL X_Md_sendAll 0 [some (.inr (some h0)), some (.inl 0), some (.inl v1), some (.inl v2), some (.inl (mI M100 100 q103 x1.toNatClampNeg)), none] [] M100 (fun r108 M107 => r108 = none ∧ Q none M107)))) ∧ ((¬ 0 ≤ x74) → mKd M72 h0 = 11 ∧ EX eL X_Md_agree 0 [some (.inr (some h0)), some (.inl v1), some (.inl v2), some (.inl 8), some (.inl 0), some (.inl 0), some (.inl 0), none] [] M72 (fun r111 M110 => r111 = none ∧ Q none M110)))) ∧ ((¬ x70 < 0) → mKd M68 h0 = 11 ∧ ∃ q113, (mR M68 1661 h0 0) = some q113 ∧ mKd M68 q113 = 100 ∧ vp_in x70 (mLn M68 q113) ∧ ∃ q117, (mR M68 1662 h0 0) = some q117 ∧ mKd M68 q117 = 100 ∧ vp_in x70 (mLn M68 q117) ∧ ∃ q121, (mR M68 1663 h0 0) = some q121 ∧ mKd M68 q121 = 100 ∧ vp_in x70 (mLn M68 q121) ∧ ∃ q125, (mR M68 1664 h0 0) = some q125 ∧ mKd M68 q125 = 100 ∧ vp_in x70 (mLn M68 q125) ∧ EX eL X_Md_agree 0 [some (.inr (some h0)), some (.inl v1), some (.inl v2), some (.inl (mI M68 100 q113 x70.toNatClampNeg)), some (.inl (mI M68 100 q117 x70.toNatClampNeg)), some (.inl (mI M68 100 q121 x70.toNatClampNeg)), some (.inl (mI M68 100 q125 x70.toNatClampNeg)), none] [] M68 (fun r130 M129 => r130 = none ∧ Q none M129))) ∧ ((¬ 0 ≤ x70) → mKd M68 h0 = 11 ∧ EX eL X_Md_common 0 [some (.inr (some h0)), some (.inl x2), some (.inl ((mI M68 1641 h0 0) + 1)), some (.inl v2), none, none, none] [] M68 (fun r133 M132 => ∃ x134, r133 = some (.inl x134) ∧ ((x134 < 0) → mKd M132 h0 = 11 ∧ EX eL X_Md_preaccepted 0 [some (.inr (some h0)), some (.inl x2), some (.inl ((mI M132 1641 h0 0) + 1)), none] [] M132 (fun r137 M136 => ∃ x138, r137 = some (.inl x138) ∧ ((0 ≤ x138) → mKd M136 h0 = 11 ∧ ∃ q140, (mR M136 1661 h0 0) = some q140 ∧ mKd M136 q140 = 100 ∧ vp_in x138 (mLn M136 q140) ∧ ∃ q144, (mR M136 1662 h0 0) = some q144 ∧ mKd M136 q144 = 100 ∧ vp_in x138 (mLn M136 q144) ∧ EX eL X_Md_fit 0 [some (.inr (some h0)), some (.inl v1), some (.inl v2), some (.inl (mI M136 100 q140 x138.toNatClampNeg)), some (.inl (mI M136 100 q144 x138.toNatClampNeg)), some (.inl 1), some (.inl 0), none, none, none] [] M136 (fun r149 M148 => r149 = none ∧ mKd M148 h0 = 11 ∧ ∃ q151, (mR M148 1657 h0 0) = some q151 ∧ mKd M148 q151 = 100 ∧ vp_in x1 (mLn M148 q151) ∧ ∃ q155, (mR M148 1652 h0 0) = some q155 ∧ mKd M148 q155 = 100 ∧ vp_in x1 (mLn M148 q155) ∧ ∀ M159, M159 = mSetI M148 100 q155 x1.toNatClampNeg (mI M148 100 q151 x1.toNatClampNeg) → ∃ q160, (mR M159 1657 h0 0) = some q160 ∧ mKd M159 q160 = 100 ∧ vp_in x1 (mLn M159 q160) ∧ EX eL X_Md_start 0 [some (.inr (some h0)), some (.inl x1), some (.inl 1), some (.inl (mI M159 100 q160 x1.toNatClampNeg))] [] M159 (fun r165 M164 => r165 = none ∧ mKd M164 h0 = 11 ∧ ∃ q167, (mR M164 1657 h0 0) = some q167 ∧ mKd M164 q167 = 100 ∧ vp_in x1 (mLn M164 q167) ∧ EX eL X_Md_sendAll 0 [some (.inr (some h0)), some (.inl 0), some (.inl v1), some (.inl v2), some (.inl (mI M164 100 q167 x1.toNatClampNeg)), none] [] M164 (fun r172 M171 => r172 = none ∧ Q none M171)))) ∧ ((¬ 0 ≤ x138) → mKd M136 h0 = 11 ∧ EX eL X_Md_agree 0 [some (.inr (some h0)), some (.inl v1), some (.inl v2), some (.inl 8), some (.inl 0), some (.inl 0), some (.inl 0), none] [] M136 (fun r175 M174 => r175 = none ∧ Q none M174)))) ∧ ((¬ x134 < 0) → mKd M132 h0 = 11 ∧ ∃ q177, (mR M132 1661 h0 0) = some q177 ∧ mKd M132 q177 = 100 ∧ vp_in x134 (mLn M132 q177) ∧ ∃ q181, (mR M132 1662 h0 0) = some q181 ∧ mKd M132 q181 = 100 ∧ vp_in x134 (mLn M132 q181) ∧ ∃ q185, (mR M132 1663 h0 0) = some q185 ∧ mKd M132 q185 = 100 ∧ vp_in x134 (mLn M132 q185) ∧ ∃ q189, (mR M132 1664 h0 0) = some q189 ∧ mKd M132 q189 = 100 ∧ vp_in x134 (mLn M132 q189) ∧ EX eL X_Md_agree 0 [some (.inr (some h0)), some (.inl v1), some (.inl v2), some (.inl (mI M132 100 q177 x134.toNatClampNeg)), some (.inl (mI M132 100 q181 x134.toNatClampNeg)), some (.inl (mI M132 100 q185 x134.toNatClampNeg)), some (.inl (mI M132 100 q189 x134.toNatClampNeg)), none] [] M132 (fun r194 M193 => r194 = none ∧ Q none M193)))))) : EX eL X_Md_afterPromise 0 [some (.inr (some h0)), some (.inl v1), some (.inl v2), none, none, none, none] [] M Q := by
  refine ex_bipush (w := 30) (pc := 0) d_Md_afterPromise_0 (by decide) ?_
  refine ex_iload_n (pc := 2) d_Md_afterPromise_2 rfl ?_
  refine ex_imul (pc := 3) d_Md_afterPromise_3 ?_
  refine ex_iload_n (pc := 4) d_Md_afterPromise_4 rfl ?_
  refine ex_iadd (pc := 5) d_Md_afterPromise_5 ?_
  refine ex_istore_n (ls2 := [_, _, _, _, _, _, _]) (pc := 6) d_Md_afterPromise_6 (Nat.le_of_ble_eq_true rfl) rfl ?_
  replace h := h _ rfl
  refine ex_iconst (w := 4) (pc := 7) d_Md_afterPromise_7 (by decide) ?_
  refine ex_iload_n (pc := 8) d_Md_afterPromise_8 rfl ?_
  refine ex_imul (pc := 9) d_Md_afterPromise_9 ?_
  refine ex_istore (ls2 := [_, _, _, _, _, _, _]) (pc := 10) d_Md_afterPromise_10 (Nat.le_of_ble_eq_true rfl) rfl ?_
  replace h := h _ rfl
  refine ex_iload (pc := 12) d_Md_afterPromise_12 rfl ?_
  refine ex_aload_n (pc := 14) d_Md_afterPromise_14 rfl ?_
  obtain ⟨k3, h⟩ := h
  refine ex_getR (pc := 15) d_Md_afterPromise_15 rfl rfl k3 ?_
  refine ex_iload_n (pc := 18) d_Md_afterPromise_18 rfl ?_
  obtain ⟨q4, e5, h⟩ := h
  obtain ⟨k6, h⟩ := h
  obtain ⟨b7, h⟩ := h
  refine ex_iald (pc := 19) d_Md_afterPromise_19 e5 k6 b7 ?_
  refine ex_iadd (pc := 20) d_Md_afterPromise_20 ?_
  refine ex_istore (ls2 := [_, _, _, _, _, _, _]) (pc := 21) d_Md_afterPromise_21 (Nat.le_of_ble_eq_true rfl) rfl ?_
  replace h := h _ rfl
  refine ex_aload_n (pc := 23) d_Md_afterPromise_23 rfl ?_
  refine ex_getR (pc := 24) d_Md_afterPromise_24 rfl rfl k3 ?_
  refine ex_iload (pc := 27) d_Md_afterPromise_27 rfl ?_
  refine ex_iload_n (pc := 29) d_Md_afterPromise_29 rfl ?_
  obtain ⟨q9, e10, h⟩ := h
  obtain ⟨k11, h⟩ := h
  obtain ⟨b12, h⟩ := h
  refine ex_iast (pc := 30) d_Md_afterPromise_30 e10 k11 b12 ?_
  replace h := h _ rfl
  refine ex_aload_n (pc := 31) d_Md_afterPromise_31 rfl ?_
  refine ex_getR (pc := 32) d_Md_afterPromise_32 rfl rfl k3 ?_
  refine ex_iload (pc := 35) d_Md_afterPromise_35 rfl ?_
  refine ex_aload_n (pc := 37) d_Md_afterPromise_37 rfl ?_
  refine ex_getR (pc := 38) d_Md_afterPromise_38 rfl rfl k3 ?_
  refine ex_iload_n (pc := 41) d_Md_afterPromise_41 rfl ?_
  obtain ⟨q14, e15, h⟩ := h
  obtain ⟨k16, h⟩ := h
  obtain ⟨b17, h⟩ := h
  refine ex_iald (pc := 42) d_Md_afterPromise_42 e15 k16 b17 ?_
  obtain ⟨q18, e19, h⟩ := h
  obtain ⟨k20, h⟩ := h
  obtain ⟨b21, h⟩ := h
  refine ex_iast (pc := 43) d_Md_afterPromise_43 e19 k20 b21 ?_
  replace h := h _ rfl
  refine ex_aload_n (pc := 44) d_Md_afterPromise_44 rfl ?_
  refine ex_getR (pc := 45) d_Md_afterPromise_45 rfl rfl k3 ?_
  refine ex_iload (pc := 48) d_Md_afterPromise_48 rfl ?_
  refine ex_aload_n (pc := 50) d_Md_afterPromise_50 rfl ?_
  refine ex_getR (pc := 51) d_Md_afterPromise_51 rfl rfl k3 ?_
  refine ex_iload_n (pc := 54) d_Md_afterPromise_54 rfl ?_
  obtain ⟨q23, e24, h⟩ := h
  obtain ⟨k25, h⟩ := h
  obtain ⟨b26, h⟩ := h
  refine ex_iald (pc := 55) d_Md_afterPromise_55 e24 k25 b26 ?_
  obtain ⟨q27, e28, h⟩ := h
  obtain ⟨k29, h⟩ := h
  obtain ⟨b30, h⟩ := h
  refine ex_iast (pc := 56) d_Md_afterPromise_56 e28 k29 b30 ?_
  replace h := h _ rfl
  refine ex_aload_n (pc := 57) d_Md_afterPromise_57 rfl ?_
  refine ex_getR (pc := 58) d_Md_afterPromise_58 rfl rfl k3 ?_
  refine ex_iload (pc := 61) d_Md_afterPromise_61 rfl ?_
  refine ex_aload_n (pc := 63) d_Md_afterPromise_63 rfl ?_
  refine ex_getR (pc := 64) d_Md_afterPromise_64 rfl rfl k3 ?_
  refine ex_iload_n (pc := 67) d_Md_afterPromise_67 rfl ?_
  obtain ⟨q32, e33, h⟩ := h
  obtain ⟨k34, h⟩ := h
  obtain ⟨b35, h⟩ := h
  refine ex_iald (pc := 68) d_Md_afterPromise_68 e33 k34 b35 ?_
  obtain ⟨q36, e37, h⟩ := h
  obtain ⟨k38, h⟩ := h
  obtain ⟨b39, h⟩ := h
  refine ex_iast (pc := 69) d_Md_afterPromise_69 e37 k38 b39 ?_
  replace h := h _ rfl
  refine ex_aload_n (pc := 70) d_Md_afterPromise_70 rfl ?_
  refine ex_getR (pc := 71) d_Md_afterPromise_71 rfl rfl k3 ?_
  refine ex_iload (pc := 74) d_Md_afterPromise_74 rfl ?_
  refine ex_aload_n (pc := 76) d_Md_afterPromise_76 rfl ?_
  refine ex_getR (pc := 77) d_Md_afterPromise_77 rfl rfl k3 ?_
  refine ex_iload_n (pc := 80) d_Md_afterPromise_80 rfl ?_
  obtain ⟨q41, e42, h⟩ := h
  obtain ⟨k43, h⟩ := h
  obtain ⟨b44, h⟩ := h
  refine ex_iald (pc := 81) d_Md_afterPromise_81 e42 k43 b44 ?_
  obtain ⟨q45, e46, h⟩ := h
  obtain ⟨k47, h⟩ := h
  obtain ⟨b48, h⟩ := h
  refine ex_iast (pc := 82) d_Md_afterPromise_82 e46 k47 b48 ?_
  replace h := h _ rfl
  refine ex_aload_n (pc := 83) d_Md_afterPromise_83 rfl ?_
  refine ex_getR (pc := 84) d_Md_afterPromise_84 rfl rfl k3 ?_
  refine ex_iload (pc := 87) d_Md_afterPromise_87 rfl ?_
  refine ex_aload_n (pc := 89) d_Md_afterPromise_89 rfl ?_
  refine ex_getR (pc := 90) d_Md_afterPromise_90 rfl rfl k3 ?_
  refine ex_iload_n (pc := 93) d_Md_afterPromise_93 rfl ?_
  obtain ⟨q50, e51, h⟩ := h
  obtain ⟨k52, h⟩ := h
  obtain ⟨b53, h⟩ := h
  refine ex_iald (pc := 94) d_Md_afterPromise_94 e51 k52 b53 ?_
  obtain ⟨q54, e55, h⟩ := h
  obtain ⟨k56, h⟩ := h
  obtain ⟨b57, h⟩ := h
  refine ex_iast (pc := 95) d_Md_afterPromise_95 e55 k56 b57 ?_
  replace h := h _ rfl
  refine ex_aload_n (pc := 96) d_Md_afterPromise_96 rfl ?_
  refine ex_getR (pc := 97) d_Md_afterPromise_97 rfl rfl k3 ?_
  refine ex_iload (pc := 100) d_Md_afterPromise_100 rfl ?_
  refine ex_aload_n (pc := 102) d_Md_afterPromise_102 rfl ?_
  refine ex_getR (pc := 103) d_Md_afterPromise_103 rfl rfl k3 ?_
  refine ex_iload_n (pc := 106) d_Md_afterPromise_106 rfl ?_
  obtain ⟨q59, e60, h⟩ := h
  obtain ⟨k61, h⟩ := h
  obtain ⟨b62, h⟩ := h
  refine ex_iald (pc := 107) d_Md_afterPromise_107 e60 k61 b62 ?_
  obtain ⟨q63, e64, h⟩ := h
  obtain ⟨k65, h⟩ := h
  obtain ⟨b66, h⟩ := h
  refine ex_iast (pc := 108) d_Md_afterPromise_108 e64 k65 b66 ?_
  replace h := h _ rfl
  refine ex_aload_n (pc := 109) d_Md_afterPromise_109 rfl ?_
  refine ex_iload (pc := 110) d_Md_afterPromise_110 rfl ?_
  refine ex_aload_n (pc := 112) d_Md_afterPromise_112 rfl ?_
  refine ex_getI (pc := 113) d_Md_afterPromise_113 rfl rfl (by decide) k3 ?_
  refine ex_iconst (w := 1) (pc := 116) d_Md_afterPromise_116 (by decide) ?_
  refine ex_iadd (pc := 117) d_Md_afterPromise_117 ?_
  refine ex_cVI (as := [_, _]) (st := []) (pc := 118) rfl rfl k3 rfl rfl rfl (Nat.le_of_ble_eq_true rfl) (EX.mono h fun r69 M68 h => ?_)
  obtain ⟨x70, rfl, h⟩ := h
  refine ⟨_, rfl, ?_⟩
  refine ex_istore (ls2 := [_, _, _, _, _, _, _]) (pc := 121) d_Md_afterPromise_121 (Nat.le_of_ble_eq_true rfl) rfl ?_
  refine ex_iload (pc := 123) d_Md_afterPromise_123 rfl ?_
  refine ex_if_ge (tgt := 143) (pc := 125) d_Md_afterPromise_125 (by decide) (fun g => ?_) (fun g => ?_)
  · replace h := h.1 g
    refine ex_iload (pc := 143) d_Md_afterPromise_143 rfl ?_
    refine ex_if_lt (tgt := 183) (pc := 145) d_Md_afterPromise_145 (by decide) (fun g => ?_) (fun g => ?_)
    · replace h := h.1 g
      refine ex_aload_n (pc := 183) d_Md_afterPromise_183 rfl ?_
      refine ex_iload (pc := 184) d_Md_afterPromise_184 rfl ?_
      refine ex_aload_n (pc := 186) d_Md_afterPromise_186 rfl ?_
      obtain ⟨k71, h⟩ := h
      refine ex_getI (pc := 187) d_Md_afterPromise_187 rfl rfl (by decide) k71 ?_
      refine ex_iconst (w := 1) (pc := 190) d_Md_afterPromise_190 (by decide) ?_
      refine ex_iadd (pc := 191) d_Md_afterPromise_191 ?_
      refine ex_cVI (as := [_, _]) (st := []) (pc := 192) rfl rfl k71 rfl rfl rfl (Nat.le_of_ble_eq_true rfl) (EX.mono h fun r73 M72 h => ?_)
      obtain ⟨x74, rfl, h⟩ := h
      refine ⟨_, rfl, ?_⟩
      refine ex_istore (ls2 := [_, _, _, _, _, _, _]) (pc := 195) d_Md_afterPromise_195 (Nat.le_of_ble_eq_true rfl) rfl ?_
      refine ex_iload (pc := 197) d_Md_afterPromise_197 rfl ?_
      refine ex_if_ge (tgt := 214) (pc := 199) d_Md_afterPromise_199 (by decide) (fun g => ?_) (fun g => ?_)
      · replace h := h.1 g
        refine ex_aload_n (pc := 214) d_Md_afterPromise_214 rfl ?_
        refine ex_iload_n (pc := 215) d_Md_afterPromise_215 rfl ?_
        refine ex_iload_n (pc := 216) d_Md_afterPromise_216 rfl ?_
        refine ex_aload_n (pc := 217) d_Md_afterPromise_217 rfl ?_
        obtain ⟨k75, h⟩ := h
        refine ex_getR (pc := 218) d_Md_afterPromise_218 rfl rfl k75 ?_
        refine ex_iload (pc := 221) d_Md_afterPromise_221 rfl ?_
        obtain ⟨q76, e77, h⟩ := h
        obtain ⟨k78, h⟩ := h
        obtain ⟨b79, h⟩ := h
        refine ex_iald (pc := 223) d_Md_afterPromise_223 e77 k78 b79 ?_
        refine ex_aload_n (pc := 224) d_Md_afterPromise_224 rfl ?_
        refine ex_getR (pc := 225) d_Md_afterPromise_225 rfl rfl k75 ?_
        refine ex_iload (pc := 228) d_Md_afterPromise_228 rfl ?_
        obtain ⟨q80, e81, h⟩ := h
        obtain ⟨k82, h⟩ := h
        obtain ⟨b83, h⟩ := h
        refine ex_iald (pc := 230) d_Md_afterPromise_230 e81 k82 b83 ?_
        refine ex_iconst (w := 1) (pc := 231) d_Md_afterPromise_231 (by decide) ?_
        refine ex_iconst (w := 0) (pc := 232) d_Md_afterPromise_232 (by decide) ?_
        refine ex_cVV (as := [_, _, _, _, _, _]) (st := []) (pc := 233) rfl rfl k75 rfl rfl rfl (Nat.le_of_ble_eq_true rfl) (EX.mono h fun r85 M84 h => ?_)
        obtain ⟨rfl, h⟩ := h
        refine ⟨rfl, ?_⟩
        refine ex_aload_n (pc := 236) d_Md_afterPromise_236 rfl ?_
        obtain ⟨k86, h⟩ := h
        refine ex_getR (pc := 237) d_Md_afterPromise_237 rfl rfl k86 ?_
        refine ex_iload_n (pc := 240) d_Md_afterPromise_240 rfl ?_
        refine ex_aload_n (pc := 241) d_Md_afterPromise_241 rfl ?_
        refine ex_getR (pc := 242) d_Md_afterPromise_242 rfl rfl k86 ?_
        refine ex_iload_n (pc := 245) d_Md_afterPromise_245 rfl ?_
        obtain ⟨q87, e88, h⟩ := h
        obtain ⟨k89, h⟩ := h
        obtain ⟨b90, h⟩ := h
        refine ex_iald (pc := 246) d_Md_afterPromise_246 e88 k89 b90 ?_
        obtain ⟨q91, e92, h⟩ := h
        obtain ⟨k93, h⟩ := h
        obtain ⟨b94, h⟩ := h
        refine ex_iast (pc := 247) d_Md_afterPromise_247 e92 k93 b94 ?_
        replace h := h _ rfl
        refine ex_aload_n (pc := 248) d_Md_afterPromise_248 rfl ?_
        refine ex_iload_n (pc := 249) d_Md_afterPromise_249 rfl ?_
        refine ex_iconst (w := 1) (pc := 250) d_Md_afterPromise_250 (by decide) ?_
        refine ex_aload_n (pc := 251) d_Md_afterPromise_251 rfl ?_
        refine ex_getR (pc := 252) d_Md_afterPromise_252 rfl rfl k86 ?_
        refine ex_iload_n (pc := 255) d_Md_afterPromise_255 rfl ?_
        obtain ⟨q96, e97, h⟩ := h
        obtain ⟨k98, h⟩ := h
        obtain ⟨b99, h⟩ := h
        refine ex_iald (pc := 256) d_Md_afterPromise_256 e97 k98 b99 ?_
        refine ex_cVV (as := [_, _, _]) (st := []) (pc := 257) rfl rfl k86 rfl rfl rfl (Nat.le_of_ble_eq_true rfl) (EX.mono h fun r101 M100 h => ?_)
        obtain ⟨rfl, h⟩ := h
        refine ⟨rfl, ?_⟩
        refine ex_aload_n (pc := 260) d_Md_afterPromise_260 rfl ?_
        refine ex_iconst (w := 0) (pc := 261) d_Md_afterPromise_261 (by decide) ?_
        refine ex_iload_n (pc := 262) d_Md_afterPromise_262 rfl ?_
        refine ex_iload_n (pc := 263) d_Md_afterPromise_263 rfl ?_
        refine ex_aload_n (pc := 264) d_Md_afterPromise_264 rfl ?_
        obtain ⟨k102, h⟩ := h
        refine ex_getR (pc := 265) d_Md_afterPromise_265 rfl rfl k102 ?_
        refine ex_iload_n (pc := 268) d_Md_afterPromise_268 rfl ?_
        obtain ⟨q103, e104, h⟩ := h
        obtain ⟨k105, h⟩ := h
        obtain ⟨b106, h⟩ := h
        refine ex_iald (pc := 269) d_Md_afterPromise_269 e104 k105 b106 ?_
        refine ex_cVV (as := [_, _, _, _]) (st := []) (pc := 270) rfl rfl k102 rfl rfl rfl (Nat.le_of_ble_eq_true rfl) (EX.mono h fun r108 M107 h => ?_)
        obtain ⟨rfl, h⟩ := h
        refine ⟨rfl, ?_⟩
        exact ex_ret_v (pc := 273) d_Md_afterPromise_273 rfl h
      · replace h := h.2 g
        refine ex_aload_n (pc := 202) d_Md_afterPromise_202 rfl ?_
        refine ex_iload_n (pc := 203) d_Md_afterPromise_203 rfl ?_
        refine ex_iload_n (pc := 204) d_Md_afterPromise_204 rfl ?_
        refine ex_bipush (w := 8) (pc := 205) d_Md_afterPromise_205 (by decide) ?_
        refine ex_iconst (w := 0) (pc := 207) d_Md_afterPromise_207 (by decide) ?_
        refine ex_iconst (w := 0) (pc := 208) d_Md_afterPromise_208 (by decide) ?_
        refine ex_iconst (w := 0) (pc := 209) d_Md_afterPromise_209 (by decide) ?_
        obtain ⟨k109, h⟩ := h
        refine ex_cVV (as := [_, _, _, _, _, _]) (st := []) (pc := 210) rfl rfl k109 rfl rfl rfl (Nat.le_of_ble_eq_true rfl) (EX.mono h fun r111 M110 h => ?_)
        obtain ⟨rfl, h⟩ := h
        refine ⟨rfl, ?_⟩
        exact ex_ret_v (pc := 213) d_Md_afterPromise_213 rfl h
    · replace h := h.2 g
      refine ex_aload_n (pc := 148) d_Md_afterPromise_148 rfl ?_
      refine ex_iload_n (pc := 149) d_Md_afterPromise_149 rfl ?_
      refine ex_iload_n (pc := 150) d_Md_afterPromise_150 rfl ?_
      refine ex_aload_n (pc := 151) d_Md_afterPromise_151 rfl ?_
      obtain ⟨k112, h⟩ := h
      refine ex_getR (pc := 152) d_Md_afterPromise_152 rfl rfl k112 ?_
      refine ex_iload (pc := 155) d_Md_afterPromise_155 rfl ?_
      obtain ⟨q113, e114, h⟩ := h
      obtain ⟨k115, h⟩ := h
      obtain ⟨b116, h⟩ := h
      refine ex_iald (pc := 157) d_Md_afterPromise_157 e114 k115 b116 ?_
      refine ex_aload_n (pc := 158) d_Md_afterPromise_158 rfl ?_
      refine ex_getR (pc := 159) d_Md_afterPromise_159 rfl rfl k112 ?_
      refine ex_iload (pc := 162) d_Md_afterPromise_162 rfl ?_
      obtain ⟨q117, e118, h⟩ := h
      obtain ⟨k119, h⟩ := h
      obtain ⟨b120, h⟩ := h
      refine ex_iald (pc := 164) d_Md_afterPromise_164 e118 k119 b120 ?_
      refine ex_aload_n (pc := 165) d_Md_afterPromise_165 rfl ?_
      refine ex_getR (pc := 166) d_Md_afterPromise_166 rfl rfl k112 ?_
      refine ex_iload (pc := 169) d_Md_afterPromise_169 rfl ?_
      obtain ⟨q121, e122, h⟩ := h
      obtain ⟨k123, h⟩ := h
      obtain ⟨b124, h⟩ := h
      refine ex_iald (pc := 171) d_Md_afterPromise_171 e122 k123 b124 ?_
      refine ex_aload_n (pc := 172) d_Md_afterPromise_172 rfl ?_
      refine ex_getR (pc := 173) d_Md_afterPromise_173 rfl rfl k112 ?_
      refine ex_iload (pc := 176) d_Md_afterPromise_176 rfl ?_
      obtain ⟨q125, e126, h⟩ := h
      obtain ⟨k127, h⟩ := h
      obtain ⟨b128, h⟩ := h
      refine ex_iald (pc := 178) d_Md_afterPromise_178 e126 k127 b128 ?_
      refine ex_cVV (as := [_, _, _, _, _, _]) (st := []) (pc := 179) rfl rfl k112 rfl rfl rfl (Nat.le_of_ble_eq_true rfl) (EX.mono h fun r130 M129 h => ?_)
      obtain ⟨rfl, h⟩ := h
      refine ⟨rfl, ?_⟩
      exact ex_ret_v (pc := 182) d_Md_afterPromise_182 rfl h
  · replace h := h.2 g
    refine ex_aload_n (pc := 128) d_Md_afterPromise_128 rfl ?_
    refine ex_iload (pc := 129) d_Md_afterPromise_129 rfl ?_
    refine ex_aload_n (pc := 131) d_Md_afterPromise_131 rfl ?_
    obtain ⟨k131, h⟩ := h
    refine ex_getI (pc := 132) d_Md_afterPromise_132 rfl rfl (by decide) k131 ?_
    refine ex_iconst (w := 1) (pc := 135) d_Md_afterPromise_135 (by decide) ?_
    refine ex_iadd (pc := 136) d_Md_afterPromise_136 ?_
    refine ex_iload_n (pc := 137) d_Md_afterPromise_137 rfl ?_
    refine ex_cVI (as := [_, _, _]) (st := []) (pc := 138) rfl rfl k131 rfl rfl rfl (Nat.le_of_ble_eq_true rfl) (EX.mono h fun r133 M132 h => ?_)
    obtain ⟨x134, rfl, h⟩ := h
    refine ⟨_, rfl, ?_⟩
    refine ex_istore (ls2 := [_, _, _, _, _, _, _]) (pc := 141) d_Md_afterPromise_141 (Nat.le_of_ble_eq_true rfl) rfl ?_
    refine ex_iload (pc := 143) d_Md_afterPromise_143 rfl ?_
    refine ex_if_lt (tgt := 183) (pc := 145) d_Md_afterPromise_145 (by decide) (fun g => ?_) (fun g => ?_)
    · replace h := h.1 g
      refine ex_aload_n (pc := 183) d_Md_afterPromise_183 rfl ?_
      refine ex_iload (pc := 184) d_Md_afterPromise_184 rfl ?_
      refine ex_aload_n (pc := 186) d_Md_afterPromise_186 rfl ?_
      obtain ⟨k135, h⟩ := h
      refine ex_getI (pc := 187) d_Md_afterPromise_187 rfl rfl (by decide) k135 ?_
      refine ex_iconst (w := 1) (pc := 190) d_Md_afterPromise_190 (by decide) ?_
      refine ex_iadd (pc := 191) d_Md_afterPromise_191 ?_
      refine ex_cVI (as := [_, _]) (st := []) (pc := 192) rfl rfl k135 rfl rfl rfl (Nat.le_of_ble_eq_true rfl) (EX.mono h fun r137 M136 h => ?_)
      obtain ⟨x138, rfl, h⟩ := h
      refine ⟨_, rfl, ?_⟩
      refine ex_istore (ls2 := [_, _, _, _, _, _, _]) (pc := 195) d_Md_afterPromise_195 (Nat.le_of_ble_eq_true rfl) rfl ?_
      refine ex_iload (pc := 197) d_Md_afterPromise_197 rfl ?_
      refine ex_if_ge (tgt := 214) (pc := 199) d_Md_afterPromise_199 (by decide) (fun g => ?_) (fun g => ?_)
      · replace h := h.1 g
        refine ex_aload_n (pc := 214) d_Md_afterPromise_214 rfl ?_
        refine ex_iload_n (pc := 215) d_Md_afterPromise_215 rfl ?_
        refine ex_iload_n (pc := 216) d_Md_afterPromise_216 rfl ?_
        refine ex_aload_n (pc := 217) d_Md_afterPromise_217 rfl ?_
        obtain ⟨k139, h⟩ := h
        refine ex_getR (pc := 218) d_Md_afterPromise_218 rfl rfl k139 ?_
        refine ex_iload (pc := 221) d_Md_afterPromise_221 rfl ?_
        obtain ⟨q140, e141, h⟩ := h
        obtain ⟨k142, h⟩ := h
        obtain ⟨b143, h⟩ := h
        refine ex_iald (pc := 223) d_Md_afterPromise_223 e141 k142 b143 ?_
        refine ex_aload_n (pc := 224) d_Md_afterPromise_224 rfl ?_
        refine ex_getR (pc := 225) d_Md_afterPromise_225 rfl rfl k139 ?_
        refine ex_iload (pc := 228) d_Md_afterPromise_228 rfl ?_
        obtain ⟨q144, e145, h⟩ := h
        obtain ⟨k146, h⟩ := h
        obtain ⟨b147, h⟩ := h
        refine ex_iald (pc := 230) d_Md_afterPromise_230 e145 k146 b147 ?_
        refine ex_iconst (w := 1) (pc := 231) d_Md_afterPromise_231 (by decide) ?_
        refine ex_iconst (w := 0) (pc := 232) d_Md_afterPromise_232 (by decide) ?_
        refine ex_cVV (as := [_, _, _, _, _, _]) (st := []) (pc := 233) rfl rfl k139 rfl rfl rfl (Nat.le_of_ble_eq_true rfl) (EX.mono h fun r149 M148 h => ?_)
        obtain ⟨rfl, h⟩ := h
        refine ⟨rfl, ?_⟩
        refine ex_aload_n (pc := 236) d_Md_afterPromise_236 rfl ?_
        obtain ⟨k150, h⟩ := h
        refine ex_getR (pc := 237) d_Md_afterPromise_237 rfl rfl k150 ?_
        refine ex_iload_n (pc := 240) d_Md_afterPromise_240 rfl ?_
        refine ex_aload_n (pc := 241) d_Md_afterPromise_241 rfl ?_
        refine ex_getR (pc := 242) d_Md_afterPromise_242 rfl rfl k150 ?_
        refine ex_iload_n (pc := 245) d_Md_afterPromise_245 rfl ?_
        obtain ⟨q151, e152, h⟩ := h
        obtain ⟨k153, h⟩ := h
        obtain ⟨b154, h⟩ := h
        refine ex_iald (pc := 246) d_Md_afterPromise_246 e152 k153 b154 ?_
        obtain ⟨q155, e156, h⟩ := h
        obtain ⟨k157, h⟩ := h
        obtain ⟨b158, h⟩ := h
        refine ex_iast (pc := 247) d_Md_afterPromise_247 e156 k157 b158 ?_
        replace h := h _ rfl
        refine ex_aload_n (pc := 248) d_Md_afterPromise_248 rfl ?_
        refine ex_iload_n (pc := 249) d_Md_afterPromise_249 rfl ?_
        refine ex_iconst (w := 1) (pc := 250) d_Md_afterPromise_250 (by decide) ?_
        refine ex_aload_n (pc := 251) d_Md_afterPromise_251 rfl ?_
        refine ex_getR (pc := 252) d_Md_afterPromise_252 rfl rfl k150 ?_
        refine ex_iload_n (pc := 255) d_Md_afterPromise_255 rfl ?_
        obtain ⟨q160, e161, h⟩ := h
        obtain ⟨k162, h⟩ := h
        obtain ⟨b163, h⟩ := h
        refine ex_iald (pc := 256) d_Md_afterPromise_256 e161 k162 b163 ?_
        refine ex_cVV (as := [_, _, _]) (st := []) (pc := 257) rfl rfl k150 rfl rfl rfl (Nat.le_of_ble_eq_true rfl) (EX.mono h fun r165 M164 h => ?_)
        obtain ⟨rfl, h⟩ := h
        refine ⟨rfl, ?_⟩
        refine ex_aload_n (pc := 260) d_Md_afterPromise_260 rfl ?_
        refine ex_iconst (w := 0) (pc := 261) d_Md_afterPromise_261 (by decide) ?_
        refine ex_iload_n (pc := 262) d_Md_afterPromise_262 rfl ?_
        refine ex_iload_n (pc := 263) d_Md_afterPromise_263 rfl ?_
        refine ex_aload_n (pc := 264) d_Md_afterPromise_264 rfl ?_
        obtain ⟨k166, h⟩ := h
        refine ex_getR (pc := 265) d_Md_afterPromise_265 rfl rfl k166 ?_
        refine ex_iload_n (pc := 268) d_Md_afterPromise_268 rfl ?_
        obtain ⟨q167, e168, h⟩ := h
        obtain ⟨k169, h⟩ := h
        obtain ⟨b170, h⟩ := h
        refine ex_iald (pc := 269) d_Md_afterPromise_269 e168 k169 b170 ?_
        refine ex_cVV (as := [_, _, _, _]) (st := []) (pc := 270) rfl rfl k166 rfl rfl rfl (Nat.le_of_ble_eq_true rfl) (EX.mono h fun r172 M171 h => ?_)
        obtain ⟨rfl, h⟩ := h
        refine ⟨rfl, ?_⟩
        exact ex_ret_v (pc := 273) d_Md_afterPromise_273 rfl h
      · replace h := h.2 g
        refine ex_aload_n (pc := 202) d_Md_afterPromise_202 rfl ?_
        refine ex_iload_n (pc := 203) d_Md_afterPromise_203 rfl ?_
        refine ex_iload_n (pc := 204) d_Md_afterPromise_204 rfl ?_
        refine ex_bipush (w := 8) (pc := 205) d_Md_afterPromise_205 (by decide) ?_
        refine ex_iconst (w := 0) (pc := 207) d_Md_afterPromise_207 (by decide) ?_
        refine ex_iconst (w := 0) (pc := 208) d_Md_afterPromise_208 (by decide) ?_
        refine ex_iconst (w := 0) (pc := 209) d_Md_afterPromise_209 (by decide) ?_
        obtain ⟨k173, h⟩ := h
        refine ex_cVV (as := [_, _, _, _, _, _]) (st := []) (pc := 210) rfl rfl k173 rfl rfl rfl (Nat.le_of_ble_eq_true rfl) (EX.mono h fun r175 M174 h => ?_)
        obtain ⟨rfl, h⟩ := h
        refine ⟨rfl, ?_⟩
        exact ex_ret_v (pc := 213) d_Md_afterPromise_213 rfl h
    · replace h := h.2 g
      refine ex_aload_n (pc := 148) d_Md_afterPromise_148 rfl ?_
      refine ex_iload_n (pc := 149) d_Md_afterPromise_149 rfl ?_
      refine ex_iload_n (pc := 150) d_Md_afterPromise_150 rfl ?_
      refine ex_aload_n (pc := 151) d_Md_afterPromise_151 rfl ?_
      obtain ⟨k176, h⟩ := h
      refine ex_getR (pc := 152) d_Md_afterPromise_152 rfl rfl k176 ?_
      refine ex_iload (pc := 155) d_Md_afterPromise_155 rfl ?_
      obtain ⟨q177, e178, h⟩ := h
      obtain ⟨k179, h⟩ := h
      obtain ⟨b180, h⟩ := h
      refine ex_iald (pc := 157) d_Md_afterPromise_157 e178 k179 b180 ?_
      refine ex_aload_n (pc := 158) d_Md_afterPromise_158 rfl ?_
      refine ex_getR (pc := 159) d_Md_afterPromise_159 rfl rfl k176 ?_
      refine ex_iload (pc := 162) d_Md_afterPromise_162 rfl ?_
      obtain ⟨q181, e182, h⟩ := h
      obtain ⟨k183, h⟩ := h
      obtain ⟨b184, h⟩ := h
      refine ex_iald (pc := 164) d_Md_afterPromise_164 e182 k183 b184 ?_
      refine ex_aload_n (pc := 165) d_Md_afterPromise_165 rfl ?_
      refine ex_getR (pc := 166) d_Md_afterPromise_166 rfl rfl k176 ?_
      refine ex_iload (pc := 169) d_Md_afterPromise_169 rfl ?_
      obtain ⟨q185, e186, h⟩ := h
      obtain ⟨k187, h⟩ := h
      obtain ⟨b188, h⟩ := h
      refine ex_iald (pc := 171) d_Md_afterPromise_171 e186 k187 b188 ?_
      refine ex_aload_n (pc := 172) d_Md_afterPromise_172 rfl ?_
      refine ex_getR (pc := 173) d_Md_afterPromise_173 rfl rfl k176 ?_
      refine ex_iload (pc := 176) d_Md_afterPromise_176 rfl ?_
      obtain ⟨q189, e190, h⟩ := h
      obtain ⟨k191, h⟩ := h
      obtain ⟨b192, h⟩ := h
      refine ex_iald (pc := 178) d_Md_afterPromise_178 e190 k191 b192 ?_
      refine ex_cVV (as := [_, _, _, _, _, _]) (st := []) (pc := 179) rfl rfl k176 rfl rfl rfl (Nat.le_of_ble_eq_true rfl) (EX.mono h fun r194 M193 h => ?_)
      obtain ⟨rfl, h⟩ := h
      refine ⟨rfl, ?_⟩
      exact ex_ret_v (pc := 182) d_Md_afterPromise_182 rfl h
theorem sg_Md_receive_0 {h0 : Nat} {v1 : Int32} {v2 : Int32} {v3 : Int32} {v4 : Int32} {M : me_M} {Q : Option me_V → me_M → Prop} (h : ∀ x1, x1 = ((30 * v2) + v4) → ((v1 = 0) → mKd M h0 = 11 ∧ ∃ q3, (mR M 1646 h0 0) = some q3 ∧ mKd M q3 = 100 ∧ vp_in x1 (mLn M q3) ∧ (((mI M 100 q3 x1.toNatClampNeg) < 3) → EX eL X_Md_receive 57 [some (.inr (some h0)), some (.inl v1), some (.inl v2), some (.inl v3), some (.inl v4), some (.inl x1), none] [] M Q) ∧ ((¬ (mI M 100 q3 x1.toNatClampNeg) < 3) → EX eL X_Md_send 0 [some (.inr (some h0)), some (.inl 4), some (.inl v2), some (.inl v3), some (.inl v4), some (.inl 0), none, none] [] M (fun r8 M7 => r8 = none ∧ Q none M7))) ∧ ((¬ v1 = 0) → ((v1 = 2) → mKd M h0 = 11 ∧ ∃ q10, (mR M 1646 h0 0) = some q10 ∧ mKd M q10 = 100 ∧ vp_in x1 (mLn M q10) ∧ (((mI M 100 q10 x1.toNatClampNeg) < 3) → EX eL X_Md_receive 57 [some (.inr (some h0)), some (.inl v1), some (.inl v2), some (.inl v3), some (.inl v4), some (.inl x1), none] [] M Q) ∧ ((¬ (mI M 100 q10 x1.toNatClampNeg) < 3) → EX eL X_Md_send 0 [some (.inr (some h0)), some (.inl 4), some (.inl v2), some (.inl v3), some (.inl v4), some (.inl 0), none, none] [] M (fun r15 M14 => r15 = none ∧ Q none M14))) ∧ ((¬ v1 = 2) → ((¬ v1 = 5) → EX eL X_Md_receive 57 [some (.inr (some h0)), some (.inl v1), some (.inl v2), some (.inl v3), some (.inl v4), some (.inl x1), none] [] M Q) ∧ ((v1 = 5) → mKd M h0 = 11 ∧ ∃ q17, (mR M 1646 h0 0) = some q17 ∧ mKd M q17 = 100 ∧ vp_in x1 (mLn M q17) ∧ (((mI M 100 q17 x1.toNatClampNeg) < 3) → EX eL X_Md_receive 57 [some (.inr (some h0)), some (.inl v1), some (.inl v2), some (.inl v3), some (.inl v4), some (.inl x1), none] [] M Q) ∧ ((¬ (mI M 100 q17 x1.toNatClampNeg) < 3) → EX eL X_Md_send 0 [some (.inr (some h0)), some (.inl 4), some (.inl v2), some (.inl v3), some (.inl v4), some (.inl 0), none, none] [] M (fun r22 M21 => r22 = none ∧ Q none M21)))))) : EX eL X_Md_receive 0 [some (.inr (some h0)), some (.inl v1), some (.inl v2), some (.inl v3), some (.inl v4), none, none] [] M Q := by
  refine ex_bipush (w := 30) (pc := 0) d_Md_receive_0 (by decide) ?_
  refine ex_iload_n (pc := 2) d_Md_receive_2 rfl ?_
  refine ex_imul (pc := 3) d_Md_receive_3 ?_
  refine ex_iload (pc := 4) d_Md_receive_4 rfl ?_
  refine ex_iadd (pc := 6) d_Md_receive_6 ?_
  refine ex_istore (ls2 := [_, _, _, _, _, _, _]) (pc := 7) d_Md_receive_7 (Nat.le_of_ble_eq_true rfl) rfl ?_
  replace h := h _ rfl
  refine ex_iload_n (pc := 9) d_Md_receive_9 rfl ?_
  refine ex_if_eq (tgt := 23) (pc := 10) d_Md_receive_10 (by decide) (fun g => ?_) (fun g => ?_)
  · replace h := h.1 g
    refine ex_iconst (w := 1) (pc := 23) d_Md_receive_23 (by decide) ?_
    refine ex_goto (tgt := 28) (pc := 24) d_Md_receive_24 (by decide) ?_
    refine ex_istore (ls2 := [_, _, _, _, _, _, _]) (pc := 28) d_Md_receive_28 (Nat.le_of_ble_eq_true rfl) rfl ?_
    refine ex_iload (pc := 30) d_Md_receive_30 rfl ?_
    refine ex_if_eq (tgt := 57) (pc := 32) d_Md_receive_32 (by decide) (fun g => absurd g (by decide)) (fun _ => ?_)
    refine ex_aload_n (pc := 35) d_Md_receive_35 rfl ?_
    obtain ⟨k2, h⟩ := h
    refine ex_getR (pc := 36) d_Md_receive_36 rfl rfl k2 ?_
    refine ex_iload (pc := 39) d_Md_receive_39 rfl ?_
    obtain ⟨q3, e4, h⟩ := h
    obtain ⟨k5, h⟩ := h
    obtain ⟨b6, h⟩ := h
    refine ex_iald (pc := 41) d_Md_receive_41 e4 k5 b6 ?_
    refine ex_iconst (w := 3) (pc := 42) d_Md_receive_42 (by decide) ?_
    refine ex_icmp_lt (tgt := 57) (pc := 43) d_Md_receive_43 (by decide) (fun g => ?_) (fun g => ?_)
    · replace h := h.1 g
      refine ex_drop (k := 6) (ls2 := [_, _, _, _, _, _, _]) rfl ?_
      exact h
    · replace h := h.2 g
      refine ex_aload_n (pc := 46) d_Md_receive_46 rfl ?_
      refine ex_iconst (w := 4) (pc := 47) d_Md_receive_47 (by decide) ?_
      refine ex_iload_n (pc := 48) d_Md_receive_48 rfl ?_
      refine ex_iload_n (pc := 49) d_Md_receive_49 rfl ?_
      refine ex_iload (pc := 50) d_Md_receive_50 rfl ?_
      refine ex_iconst (w := 0) (pc := 52) d_Md_receive_52 (by decide) ?_
      refine ex_cVV (as := [_, _, _, _, _]) (st := []) (pc := 53) rfl rfl k2 rfl rfl rfl (Nat.le_of_ble_eq_true rfl) (EX.mono h fun r8 M7 h => ?_)
      obtain ⟨rfl, h⟩ := h
      refine ⟨rfl, ?_⟩
      exact ex_ret_v (pc := 56) d_Md_receive_56 rfl h
  · replace h := h.2 g
    refine ex_iload_n (pc := 13) d_Md_receive_13 rfl ?_
    refine ex_iconst (w := 2) (pc := 14) d_Md_receive_14 (by decide) ?_
    refine ex_icmp_eq (tgt := 23) (pc := 15) d_Md_receive_15 (by decide) (fun g => ?_) (fun g => ?_)
    · replace h := h.1 g
      refine ex_iconst (w := 1) (pc := 23) d_Md_receive_23 (by decide) ?_
      refine ex_goto (tgt := 28) (pc := 24) d_Md_receive_24 (by decide) ?_
      refine ex_istore (ls2 := [_, _, _, _, _, _, _]) (pc := 28) d_Md_receive_28 (Nat.le_of_ble_eq_true rfl) rfl ?_
      refine ex_iload (pc := 30) d_Md_receive_30 rfl ?_
      refine ex_if_eq (tgt := 57) (pc := 32) d_Md_receive_32 (by decide) (fun g => absurd g (by decide)) (fun _ => ?_)
      refine ex_aload_n (pc := 35) d_Md_receive_35 rfl ?_
      obtain ⟨k9, h⟩ := h
      refine ex_getR (pc := 36) d_Md_receive_36 rfl rfl k9 ?_
      refine ex_iload (pc := 39) d_Md_receive_39 rfl ?_
      obtain ⟨q10, e11, h⟩ := h
      obtain ⟨k12, h⟩ := h
      obtain ⟨b13, h⟩ := h
      refine ex_iald (pc := 41) d_Md_receive_41 e11 k12 b13 ?_
      refine ex_iconst (w := 3) (pc := 42) d_Md_receive_42 (by decide) ?_
      refine ex_icmp_lt (tgt := 57) (pc := 43) d_Md_receive_43 (by decide) (fun g => ?_) (fun g => ?_)
      · replace h := h.1 g
        refine ex_drop (k := 6) (ls2 := [_, _, _, _, _, _, _]) rfl ?_
        exact h
      · replace h := h.2 g
        refine ex_aload_n (pc := 46) d_Md_receive_46 rfl ?_
        refine ex_iconst (w := 4) (pc := 47) d_Md_receive_47 (by decide) ?_
        refine ex_iload_n (pc := 48) d_Md_receive_48 rfl ?_
        refine ex_iload_n (pc := 49) d_Md_receive_49 rfl ?_
        refine ex_iload (pc := 50) d_Md_receive_50 rfl ?_
        refine ex_iconst (w := 0) (pc := 52) d_Md_receive_52 (by decide) ?_
        refine ex_cVV (as := [_, _, _, _, _]) (st := []) (pc := 53) rfl rfl k9 rfl rfl rfl (Nat.le_of_ble_eq_true rfl) (EX.mono h fun r15 M14 h => ?_)
        obtain ⟨rfl, h⟩ := h
        refine ⟨rfl, ?_⟩
        exact ex_ret_v (pc := 56) d_Md_receive_56 rfl h
    · replace h := h.2 g
      refine ex_iload_n (pc := 18) d_Md_receive_18 rfl ?_
      refine ex_iconst (w := 5) (pc := 19) d_Md_receive_19 (by decide) ?_
      refine ex_icmp_ne (tgt := 27) (pc := 20) d_Md_receive_20 (by decide) (fun g => ?_) (fun g => ?_)
      · replace h := h.1 g
        refine ex_iconst (w := 0) (pc := 27) d_Md_receive_27 (by decide) ?_
        refine ex_istore (ls2 := [_, _, _, _, _, _, _]) (pc := 28) d_Md_receive_28 (Nat.le_of_ble_eq_true rfl) rfl ?_
        refine ex_iload (pc := 30) d_Md_receive_30 rfl ?_
        refine ex_if_eq (tgt := 57) (pc := 32) d_Md_receive_32 (by decide) (fun _ => ?_) (fun g => absurd g (by decide))
        refine ex_drop (k := 6) (ls2 := [_, _, _, _, _, _, _]) rfl ?_
        exact h
      · replace h := h.2 g
        refine ex_iconst (w := 1) (pc := 23) d_Md_receive_23 (by decide) ?_
        refine ex_goto (tgt := 28) (pc := 24) d_Md_receive_24 (by decide) ?_
        refine ex_istore (ls2 := [_, _, _, _, _, _, _]) (pc := 28) d_Md_receive_28 (Nat.le_of_ble_eq_true rfl) rfl ?_
        refine ex_iload (pc := 30) d_Md_receive_30 rfl ?_
        refine ex_if_eq (tgt := 57) (pc := 32) d_Md_receive_32 (by decide) (fun g => absurd g (by decide)) (fun _ => ?_)
        refine ex_aload_n (pc := 35) d_Md_receive_35 rfl ?_
        obtain ⟨k16, h⟩ := h
        refine ex_getR (pc := 36) d_Md_receive_36 rfl rfl k16 ?_
        refine ex_iload (pc := 39) d_Md_receive_39 rfl ?_
        obtain ⟨q17, e18, h⟩ := h
        obtain ⟨k19, h⟩ := h
        obtain ⟨b20, h⟩ := h
        refine ex_iald (pc := 41) d_Md_receive_41 e18 k19 b20 ?_
        refine ex_iconst (w := 3) (pc := 42) d_Md_receive_42 (by decide) ?_
        refine ex_icmp_lt (tgt := 57) (pc := 43) d_Md_receive_43 (by decide) (fun g => ?_) (fun g => ?_)
        · replace h := h.1 g
          refine ex_drop (k := 6) (ls2 := [_, _, _, _, _, _, _]) rfl ?_
          exact h
        · replace h := h.2 g
          refine ex_aload_n (pc := 46) d_Md_receive_46 rfl ?_
          refine ex_iconst (w := 4) (pc := 47) d_Md_receive_47 (by decide) ?_
          refine ex_iload_n (pc := 48) d_Md_receive_48 rfl ?_
          refine ex_iload_n (pc := 49) d_Md_receive_49 rfl ?_
          refine ex_iload (pc := 50) d_Md_receive_50 rfl ?_
          refine ex_iconst (w := 0) (pc := 52) d_Md_receive_52 (by decide) ?_
          refine ex_cVV (as := [_, _, _, _, _]) (st := []) (pc := 53) rfl rfl k16 rfl rfl rfl (Nat.le_of_ble_eq_true rfl) (EX.mono h fun r22 M21 h => ?_)
          obtain ⟨rfl, h⟩ := h
          refine ⟨rfl, ?_⟩
          exact ex_ret_v (pc := 56) d_Md_receive_56 rfl h
theorem sg_Md_receive_57 {h0 : Nat} {v1 : Int32} {v2 : Int32} {v3 : Int32} {v4 : Int32} {v5 : Int32} {M : me_M} {Q : Option me_V → me_M → Prop} (h : ((¬ v1 = 0) → EX eL X_Md_receive 69 [some (.inr (some h0)), some (.inl v1), some (.inl v2), some (.inl v3), some (.inl v4), some (.inl v5), none] [] M Q) ∧ ((v1 = 0) → mKd M h0 = 11 ∧ EX eL X_Md_preaccept 0 [some (.inr (some h0)), some (.inl v2), some (.inl v3), some (.inl v4), none, none] [] M (fun r3 M2 => r3 = none ∧ EX eL X_Md_receive 69 [some (.inr (some h0)), some (.inl v1), some (.inl v2), some (.inl v3), some (.inl v4), some (.inl v5), none] [] M2 Q))) : EX eL X_Md_receive 57 [some (.inr (some h0)), some (.inl v1), some (.inl v2), some (.inl v3), some (.inl v4), some (.inl v5), none] [] M Q := by
  refine ex_iload_n (pc := 57) d_Md_receive_57 rfl ?_
  refine ex_if_ne (tgt := 69) (pc := 58) d_Md_receive_58 (by decide) (fun g => ?_) (fun g => ?_)
  · replace h := h.1 g
    exact h
  · replace h := h.2 g
    refine ex_aload_n (pc := 61) d_Md_receive_61 rfl ?_
    refine ex_iload_n (pc := 62) d_Md_receive_62 rfl ?_
    refine ex_iload_n (pc := 63) d_Md_receive_63 rfl ?_
    refine ex_iload (pc := 64) d_Md_receive_64 rfl ?_
    obtain ⟨k1, h⟩ := h
    refine ex_cVV (as := [_, _, _]) (st := []) (pc := 66) rfl rfl k1 rfl rfl rfl (Nat.le_of_ble_eq_true rfl) (EX.mono h fun r3 M2 h => ?_)
    obtain ⟨rfl, h⟩ := h
    refine ⟨rfl, ?_⟩
    exact h
theorem sg_Md_receive_69 {h0 : Nat} {v1 : Int32} {v2 : Int32} {v3 : Int32} {v4 : Int32} {v5 : Int32} {M : me_M} {Q : Option me_V → me_M → Prop} (h : ((¬ v1 = 2) → EX eL X_Md_receive 82 [some (.inr (some h0)), some (.inl v1), some (.inl v2), some (.inl v3), some (.inl v4), some (.inl v5), none] [] M Q) ∧ ((v1 = 2) → mKd M h0 = 11 ∧ EX eL X_Md_accept 0 [some (.inr (some h0)), some (.inl v2), some (.inl v3), some (.inl v4), none, none] [] M (fun r3 M2 => r3 = none ∧ EX eL X_Md_receive 82 [some (.inr (some h0)), some (.inl v1), some (.inl v2), some (.inl v3), some (.inl v4), some (.inl v5), none] [] M2 Q))) : EX eL X_Md_receive 69 [some (.inr (some h0)), some (.inl v1), some (.inl v2), some (.inl v3), some (.inl v4), some (.inl v5), none] [] M Q := by
  refine ex_iload_n (pc := 69) d_Md_receive_69 rfl ?_
  refine ex_iconst (w := 2) (pc := 70) d_Md_receive_70 (by decide) ?_
  refine ex_icmp_ne (tgt := 82) (pc := 71) d_Md_receive_71 (by decide) (fun g => ?_) (fun g => ?_)
  · replace h := h.1 g
    exact h
  · replace h := h.2 g
    refine ex_aload_n (pc := 74) d_Md_receive_74 rfl ?_
    refine ex_iload_n (pc := 75) d_Md_receive_75 rfl ?_
    refine ex_iload_n (pc := 76) d_Md_receive_76 rfl ?_
    refine ex_iload (pc := 77) d_Md_receive_77 rfl ?_
    obtain ⟨k1, h⟩ := h
    refine ex_cVV (as := [_, _, _]) (st := []) (pc := 79) rfl rfl k1 rfl rfl rfl (Nat.le_of_ble_eq_true rfl) (EX.mono h fun r3 M2 h => ?_)
    obtain ⟨rfl, h⟩ := h
    refine ⟨rfl, ?_⟩
    exact h
theorem sg_Md_receive_82 {h0 : Nat} {v1 : Int32} {v2 : Int32} {v3 : Int32} {v4 : Int32} {v5 : Int32} {M : me_M} {Q : Option me_V → me_M → Prop} (h : ((¬ v1 = 5) → EX eL X_Md_receive 95 [some (.inr (some h0)), some (.inl v1), some (.inl v2), none, some (.inl v4), some (.inl v5), none] [] M Q) ∧ ((v1 = 5) → mKd M h0 = 11 ∧ EX eL X_Md_asked 0 [some (.inr (some h0)), some (.inl v2), some (.inl v3), some (.inl v4), none, none] [] M (fun r3 M2 => r3 = none ∧ EX eL X_Md_receive 95 [some (.inr (some h0)), some (.inl v1), some (.inl v2), none, some (.inl v4), some (.inl v5), none] [] M2 Q))) : EX eL X_Md_receive 82 [some (.inr (some h0)), some (.inl v1), some (.inl v2), some (.inl v3), some (.inl v4), some (.inl v5), none] [] M Q := by
  refine ex_iload_n (pc := 82) d_Md_receive_82 rfl ?_
  refine ex_iconst (w := 5) (pc := 83) d_Md_receive_83 (by decide) ?_
  refine ex_icmp_ne (tgt := 95) (pc := 84) d_Md_receive_84 (by decide) (fun g => ?_) (fun g => ?_)
  · replace h := h.1 g
    refine ex_drop (k := 3) (ls2 := [_, _, _, _, _, _, _]) rfl ?_
    exact h
  · replace h := h.2 g
    refine ex_aload_n (pc := 87) d_Md_receive_87 rfl ?_
    refine ex_iload_n (pc := 88) d_Md_receive_88 rfl ?_
    refine ex_iload_n (pc := 89) d_Md_receive_89 rfl ?_
    refine ex_iload (pc := 90) d_Md_receive_90 rfl ?_
    obtain ⟨k1, h⟩ := h
    refine ex_cVV (as := [_, _, _]) (st := []) (pc := 92) rfl rfl k1 rfl rfl rfl (Nat.le_of_ble_eq_true rfl) (EX.mono h fun r3 M2 h => ?_)
    obtain ⟨rfl, h⟩ := h
    refine ⟨rfl, ?_⟩
    refine ex_drop (k := 3) (ls2 := [_, _, _, _, _, _, _]) rfl ?_
    exact h
theorem sg_Md_receive_95 {h0 : Nat} {v1 : Int32} {v2 : Int32} {v4 : Int32} {v5 : Int32} {M : me_M} {Q : Option me_V → me_M → Prop} (h : ((¬ v1 = 4) → EX eL X_Md_receive 117 [some (.inr (some h0)), some (.inl v1), some (.inl v2), none, some (.inl v4), some (.inl v5), none] [] M Q) ∧ ((v1 = 4) → mKd M h0 = 11 ∧ ∃ q2, (mR M 1646 h0 0) = some q2 ∧ mKd M q2 = 100 ∧ vp_in v5 (mLn M q2) ∧ ((3 ≤ (mI M 100 q2 v5.toNatClampNeg)) → EX eL X_Md_receive 117 [some (.inr (some h0)), some (.inl v1), some (.inl v2), none, some (.inl v4), some (.inl v5), none] [] M Q) ∧ ((¬ 3 ≤ (mI M 100 q2 v5.toNatClampNeg)) → EX eL X_Md_settle 0 [some (.inr (some h0)), some (.inl v5)] [] M (fun r7 M6 => r7 = none ∧ EX eL X_Md_receive 117 [some (.inr (some h0)), some (.inl v1), some (.inl v2), none, some (.inl v4), some (.inl v5), none] [] M6 Q)))) : EX eL X_Md_receive 95 [some (.inr (some h0)), some (.inl v1), some (.inl v2), none, some (.inl v4), some (.inl v5), none] [] M Q := by
  refine ex_iload_n (pc := 95) d_Md_receive_95 rfl ?_
  refine ex_iconst (w := 4) (pc := 96) d_Md_receive_96 (by decide) ?_
  refine ex_icmp_ne (tgt := 117) (pc := 97) d_Md_receive_97 (by decide) (fun g => ?_) (fun g => ?_)
  · replace h := h.1 g
    exact h
  · replace h := h.2 g
    refine ex_aload_n (pc := 100) d_Md_receive_100 rfl ?_
    obtain ⟨k1, h⟩ := h
    refine ex_getR (pc := 101) d_Md_receive_101 rfl rfl k1 ?_
    refine ex_iload (pc := 104) d_Md_receive_104 rfl ?_
    obtain ⟨q2, e3, h⟩ := h
    obtain ⟨k4, h⟩ := h
    obtain ⟨b5, h⟩ := h
    refine ex_iald (pc := 106) d_Md_receive_106 e3 k4 b5 ?_
    refine ex_iconst (w := 3) (pc := 107) d_Md_receive_107 (by decide) ?_
    refine ex_icmp_ge (tgt := 117) (pc := 108) d_Md_receive_108 (by decide) (fun g => ?_) (fun g => ?_)
    · replace h := h.1 g
      exact h
    · replace h := h.2 g
      refine ex_aload_n (pc := 111) d_Md_receive_111 rfl ?_
      refine ex_iload (pc := 112) d_Md_receive_112 rfl ?_
      refine ex_cVV (as := [_]) (st := []) (pc := 114) rfl rfl k1 rfl rfl rfl (Nat.le_of_ble_eq_true rfl) (EX.mono h fun r7 M6 h => ?_)
      obtain ⟨rfl, h⟩ := h
      refine ⟨rfl, ?_⟩
      exact h
theorem sg_Md_receive_117 {h0 : Nat} {v1 : Int32} {v2 : Int32} {v4 : Int32} {v5 : Int32} {M : me_M} {Q : Option me_V → me_M → Prop} (h : ((¬ v1 = 1) → EX eL X_Md_receive 139 [some (.inr (some h0)), some (.inl v1), some (.inl v2), none, some (.inl v4), some (.inl v5), none] [] M Q) ∧ ((v1 = 1) → mKd M h0 = 11 ∧ EX eL X_Md_counts 0 [some (.inr (some h0)), some (.inl v5), some (.inl 1), none, none, none, none] [] M (fun r3 M2 => ∃ x4, r3 = some (.inl x4) ∧ ((x4 = 0) → EX eL X_Md_receive 139 [some (.inr (some h0)), some (.inl v1), some (.inl v2), none, some (.inl v4), some (.inl v5), none] [] M2 Q) ∧ ((¬ x4 = 0) → mKd M2 h0 = 11 ∧ EX eL X_Md_afterPreaccept 0 [some (.inr (some h0)), some (.inl v2), some (.inl v4), none, none, none, none, none] [] M2 (fun r7 M6 => r7 = none ∧ EX eL X_Md_receive 139 [some (.inr (some h0)), some (.inl v1), some (.inl v2), none, some (.inl v4), some (.inl v5), none] [] M6 Q))))) : EX eL X_Md_receive 117 [some (.inr (some h0)), some (.inl v1), some (.inl v2), none, some (.inl v4), some (.inl v5), none] [] M Q := by
  refine ex_iload_n (pc := 117) d_Md_receive_117 rfl ?_
  refine ex_iconst (w := 1) (pc := 118) d_Md_receive_118 (by decide) ?_
  refine ex_icmp_ne (tgt := 139) (pc := 119) d_Md_receive_119 (by decide) (fun g => ?_) (fun g => ?_)
  · replace h := h.1 g
    exact h
  · replace h := h.2 g
    refine ex_aload_n (pc := 122) d_Md_receive_122 rfl ?_
    refine ex_iload (pc := 123) d_Md_receive_123 rfl ?_
    refine ex_iconst (w := 1) (pc := 125) d_Md_receive_125 (by decide) ?_
    obtain ⟨k1, h⟩ := h
    refine ex_cVI (as := [_, _]) (st := []) (pc := 126) rfl rfl k1 rfl rfl rfl (Nat.le_of_ble_eq_true rfl) (EX.mono h fun r3 M2 h => ?_)
    obtain ⟨x4, rfl, h⟩ := h
    refine ⟨_, rfl, ?_⟩
    refine ex_if_eq (tgt := 139) (pc := 129) d_Md_receive_129 (by decide) (fun g => ?_) (fun g => ?_)
    · replace h := h.1 g
      exact h
    · replace h := h.2 g
      refine ex_aload_n (pc := 132) d_Md_receive_132 rfl ?_
      refine ex_iload_n (pc := 133) d_Md_receive_133 rfl ?_
      refine ex_iload (pc := 134) d_Md_receive_134 rfl ?_
      obtain ⟨k5, h⟩ := h
      refine ex_cVV (as := [_, _]) (st := []) (pc := 136) rfl rfl k5 rfl rfl rfl (Nat.le_of_ble_eq_true rfl) (EX.mono h fun r7 M6 h => ?_)
      obtain ⟨rfl, h⟩ := h
      refine ⟨rfl, ?_⟩
      exact h
theorem sg_Md_receive_139 {h0 : Nat} {v1 : Int32} {v2 : Int32} {v4 : Int32} {v5 : Int32} {M : me_M} {Q : Option me_V → me_M → Prop} (h : ((¬ v1 = 3) → EX eL X_Md_receive 189 [some (.inr (some h0)), some (.inl v1), some (.inl v2), none, some (.inl v4), some (.inl v5), none] [] M Q) ∧ ((v1 = 3) → mKd M h0 = 11 ∧ EX eL X_Md_counts 0 [some (.inr (some h0)), some (.inl v5), some (.inl 2), none, none, none, none] [] M (fun r3 M2 => ∃ x4, r3 = some (.inl x4) ∧ ((x4 = 0) → EX eL X_Md_receive 189 [some (.inr (some h0)), some (.inl v1), some (.inl v2), none, some (.inl v4), some (.inl v5), none] [] M2 Q) ∧ ((¬ x4 = 0) → mKd M2 h0 = 11 ∧ ∃ q6, (mR M2 1658 h0 0) = some q6 ∧ mKd M2 q6 = 100 ∧ vp_in v5 (mLn M2 q6) ∧ ((¬ (mI M2 100 q6 v5.toNatClampNeg) = (mI M2 1641 h0 0)) → EX eL X_Md_receive 189 [some (.inr (some h0)), some (.inl v1), some (.inl v2), none, some (.inl v4), some (.inl v5), none] [] M2 Q) ∧ (((mI M2 100 q6 v5.toNatClampNeg) = (mI M2 1641 h0 0)) → ∃ q10, (mR M2 1649 h0 0) = some q10 ∧ mKd M2 q10 = 100 ∧ vp_in v5 (mLn M2 q10) ∧ ∃ q14, (mR M2 1650 h0 0) = some q14 ∧ mKd M2 q14 = 100 ∧ vp_in v5 (mLn M2 q14) ∧ EX eL X_Md_finish 0 [some (.inr (some h0)), some (.inl v2), some (.inl v4), some (.inl (mI M2 100 q10 v5.toNatClampNeg)), some (.inl (mI M2 100 q14 v5.toNatClampNeg)), none] [] M2 (fun r19 M18 => r19 = none ∧ EX eL X_Md_receive 189 [some (.inr (some h0)), some (.inl v1), some (.inl v2), none, some (.inl v4), some (.inl v5), none] [] M18 Q)))))) : EX eL X_Md_receive 139 [some (.inr (some h0)), some (.inl v1), some (.inl v2), none, some (.inl v4), some (.inl v5), none] [] M Q := by
  refine ex_iload_n (pc := 139) d_Md_receive_139 rfl ?_
  refine ex_iconst (w := 3) (pc := 140) d_Md_receive_140 (by decide) ?_
  refine ex_icmp_ne (tgt := 189) (pc := 141) d_Md_receive_141 (by decide) (fun g => ?_) (fun g => ?_)
  · replace h := h.1 g
    exact h
  · replace h := h.2 g
    refine ex_aload_n (pc := 144) d_Md_receive_144 rfl ?_
    refine ex_iload (pc := 145) d_Md_receive_145 rfl ?_
    refine ex_iconst (w := 2) (pc := 147) d_Md_receive_147 (by decide) ?_
    obtain ⟨k1, h⟩ := h
    refine ex_cVI (as := [_, _]) (st := []) (pc := 148) rfl rfl k1 rfl rfl rfl (Nat.le_of_ble_eq_true rfl) (EX.mono h fun r3 M2 h => ?_)
    obtain ⟨x4, rfl, h⟩ := h
    refine ⟨_, rfl, ?_⟩
    refine ex_if_eq (tgt := 189) (pc := 151) d_Md_receive_151 (by decide) (fun g => ?_) (fun g => ?_)
    · replace h := h.1 g
      exact h
    · replace h := h.2 g
      refine ex_aload_n (pc := 154) d_Md_receive_154 rfl ?_
      obtain ⟨k5, h⟩ := h
      refine ex_getR (pc := 155) d_Md_receive_155 rfl rfl k5 ?_
      refine ex_iload (pc := 158) d_Md_receive_158 rfl ?_
      obtain ⟨q6, e7, h⟩ := h
      obtain ⟨k8, h⟩ := h
      obtain ⟨b9, h⟩ := h
      refine ex_iald (pc := 160) d_Md_receive_160 e7 k8 b9 ?_
      refine ex_aload_n (pc := 161) d_Md_receive_161 rfl ?_
      refine ex_getI (pc := 162) d_Md_receive_162 rfl rfl (by decide) k5 ?_
      refine ex_icmp_ne (tgt := 189) (pc := 165) d_Md_receive_165 (by decide) (fun g => ?_) (fun g => ?_)
      · replace h := h.1 g
        exact h
      · replace h := h.2 g
        refine ex_aload_n (pc := 168) d_Md_receive_168 rfl ?_
        refine ex_iload_n (pc := 169) d_Md_receive_169 rfl ?_
        refine ex_iload (pc := 170) d_Md_receive_170 rfl ?_
        refine ex_aload_n (pc := 172) d_Md_receive_172 rfl ?_
        refine ex_getR (pc := 173) d_Md_receive_173 rfl rfl k5 ?_
        refine ex_iload (pc := 176) d_Md_receive_176 rfl ?_
        obtain ⟨q10, e11, h⟩ := h
        obtain ⟨k12, h⟩ := h
        obtain ⟨b13, h⟩ := h
        refine ex_iald (pc := 178) d_Md_receive_178 e11 k12 b13 ?_
        refine ex_aload_n (pc := 179) d_Md_receive_179 rfl ?_
        refine ex_getR (pc := 180) d_Md_receive_180 rfl rfl k5 ?_
        refine ex_iload (pc := 183) d_Md_receive_183 rfl ?_
        obtain ⟨q14, e15, h⟩ := h
        obtain ⟨k16, h⟩ := h
        obtain ⟨b17, h⟩ := h
        refine ex_iald (pc := 185) d_Md_receive_185 e15 k16 b17 ?_
        refine ex_cVV (as := [_, _, _, _]) (st := []) (pc := 186) rfl rfl k5 rfl rfl rfl (Nat.le_of_ble_eq_true rfl) (EX.mono h fun r19 M18 h => ?_)
        obtain ⟨rfl, h⟩ := h
        refine ⟨rfl, ?_⟩
        exact h
theorem sg_Md_receive_189 {h0 : Nat} {v1 : Int32} {v2 : Int32} {v4 : Int32} {v5 : Int32} {M : me_M} {Q : Option me_V → me_M → Prop} (h : ((¬ v1 = 6) → Q none M) ∧ ((v1 = 6) → mKd M h0 = 11 ∧ EX eL X_Md_counts 0 [some (.inr (some h0)), some (.inl v5), some (.inl 3), none, none, none, none] [] M (fun r3 M2 => ∃ x4, r3 = some (.inl x4) ∧ ((x4 = 0) → Q none M2) ∧ ((¬ x4 = 0) → mKd M2 h0 = 11 ∧ ∃ q6, (mR M2 1658 h0 0) = some q6 ∧ mKd M2 q6 = 100 ∧ vp_in v5 (mLn M2 q6) ∧ ((¬ (mI M2 100 q6 v5.toNatClampNeg) = (mI M2 1641 h0 0)) → Q none M2) ∧ (((mI M2 100 q6 v5.toNatClampNeg) = (mI M2 1641 h0 0)) → EX eL X_Md_afterPromise 0 [some (.inr (some h0)), some (.inl v2), some (.inl v4), none, none, none, none] [] M2 (fun r11 M10 => r11 = none ∧ Q none M10)))))) : EX eL X_Md_receive 189 [some (.inr (some h0)), some (.inl v1), some (.inl v2), none, some (.inl v4), some (.inl v5), none] [] M Q := by
  refine ex_iload_n (pc := 189) d_Md_receive_189 rfl ?_
  refine ex_bipush (w := 6) (pc := 190) d_Md_receive_190 (by decide) ?_
  refine ex_icmp_ne (tgt := 226) (pc := 192) d_Md_receive_192 (by decide) (fun g => ?_) (fun g => ?_)
  · replace h := h.1 g
    exact ex_ret_v (pc := 226) d_Md_receive_226 rfl h
  · replace h := h.2 g
    refine ex_aload_n (pc := 195) d_Md_receive_195 rfl ?_
    refine ex_iload (pc := 196) d_Md_receive_196 rfl ?_
    refine ex_iconst (w := 3) (pc := 198) d_Md_receive_198 (by decide) ?_
    obtain ⟨k1, h⟩ := h
    refine ex_cVI (as := [_, _]) (st := []) (pc := 199) rfl rfl k1 rfl rfl rfl (Nat.le_of_ble_eq_true rfl) (EX.mono h fun r3 M2 h => ?_)
    obtain ⟨x4, rfl, h⟩ := h
    refine ⟨_, rfl, ?_⟩
    refine ex_if_eq (tgt := 226) (pc := 202) d_Md_receive_202 (by decide) (fun g => ?_) (fun g => ?_)
    · replace h := h.1 g
      exact ex_ret_v (pc := 226) d_Md_receive_226 rfl h
    · replace h := h.2 g
      refine ex_aload_n (pc := 205) d_Md_receive_205 rfl ?_
      obtain ⟨k5, h⟩ := h
      refine ex_getR (pc := 206) d_Md_receive_206 rfl rfl k5 ?_
      refine ex_iload (pc := 209) d_Md_receive_209 rfl ?_
      obtain ⟨q6, e7, h⟩ := h
      obtain ⟨k8, h⟩ := h
      obtain ⟨b9, h⟩ := h
      refine ex_iald (pc := 211) d_Md_receive_211 e7 k8 b9 ?_
      refine ex_aload_n (pc := 212) d_Md_receive_212 rfl ?_
      refine ex_getI (pc := 213) d_Md_receive_213 rfl rfl (by decide) k5 ?_
      refine ex_icmp_ne (tgt := 226) (pc := 216) d_Md_receive_216 (by decide) (fun g => ?_) (fun g => ?_)
      · replace h := h.1 g
        exact ex_ret_v (pc := 226) d_Md_receive_226 rfl h
      · replace h := h.2 g
        refine ex_aload_n (pc := 219) d_Md_receive_219 rfl ?_
        refine ex_iload_n (pc := 220) d_Md_receive_220 rfl ?_
        refine ex_iload (pc := 221) d_Md_receive_221 rfl ?_
        refine ex_cVV (as := [_, _]) (st := []) (pc := 223) rfl rfl k5 rfl rfl rfl (Nat.le_of_ble_eq_true rfl) (EX.mono h fun r11 M10 h => ?_)
        obtain ⟨rfl, h⟩ := h
        refine ⟨rfl, ?_⟩
        exact ex_ret_v (pc := 226) d_Md_receive_226 rfl h
theorem sg_Md_deliver_0 {h0 : Nat} {v1 : Int32} {M : me_M} {Q : Option me_V → me_M → Prop} (h : ((v1 < 0) → Q (some (.inl (-1 : Int32))) M) ∧ ((¬ v1 < 0) → mKd M h0 = 11 ∧ ((v1 < (mI M 1666 h0 0)) → EX eL X_Md_take 0 [some (.inr (some h0)), some (.inl v1), none] [] M (fun r3 M2 => r3 = none ∧ mKd M2 h0 = 11 ∧ ∃ q5, (mR M2 1668 h0 0) = some q5 ∧ mKd M2 q5 = 100 ∧ vp_in 440 (mLn M2 q5) ∧ ∀ x9, x9 = (mI M2 100 q5 (440 : Int32).toNatClampNeg) → vp_in 442 (mLn M2 q5) ∧ ∃ q11, (mR M2 1643 h0 0) = some q11 ∧ mKd M2 q11 = 101 ∧ vp_in (mI M2 100 q5 (442 : Int32).toNatClampNeg) (mLn M2 q11) ∧ ((¬ (mI M2 101 q11 (mI M2 100 q5 (442 : Int32).toNatClampNeg).toNatClampNeg) = 0) → Q (some (.inl x9)) M2) ∧ (((mI M2 101 q11 (mI M2 100 q5 (442 : Int32).toNatClampNeg).toNatClampNeg) = 0) → vp_in 442 (mLn M2 q5) ∧ vp_in 441 (mLn M2 q5) ∧ vp_in 443 (mLn M2 q5) ∧ EX eL X_Md_receive 0 [some (.inr (some h0)), some (.inl x9), some (.inl (mI M2 100 q5 (442 : Int32).toNatClampNeg)), some (.inl (mI M2 100 q5 (441 : Int32).toNatClampNeg)), some (.inl (mI M2 100 q5 (443 : Int32).toNatClampNeg)), none, none] [] M2 (fun r19 M18 => r19 = none ∧ Q (some (.inl x9)) M18)))) ∧ ((¬ v1 < (mI M 1666 h0 0)) → Q (some (.inl (-1 : Int32))) M))) : EX eL X_Md_deliver 0 [some (.inr (some h0)), some (.inl v1), none] [] M Q := by
  refine ex_iload_n (pc := 0) d_Md_deliver_0 rfl ?_
  refine ex_if_lt (tgt := 12) (pc := 1) d_Md_deliver_1 (by decide) (fun g => ?_) (fun g => ?_)
  · replace h := h.1 g
    refine ex_iconst (w := (-1 : Int32)) (pc := 12) d_Md_deliver_12 (by decide) ?_
    exact ex_ret_i (pc := 13) d_Md_deliver_13 rfl h
  · replace h := h.2 g
    refine ex_iload_n (pc := 4) d_Md_deliver_4 rfl ?_
    refine ex_aload_n (pc := 5) d_Md_deliver_5 rfl ?_
    obtain ⟨k1, h⟩ := h
    refine ex_getI (pc := 6) d_Md_deliver_6 rfl rfl (by decide) k1 ?_
    refine ex_icmp_lt (tgt := 14) (pc := 9) d_Md_deliver_9 (by decide) (fun g => ?_) (fun g => ?_)
    · replace h := h.1 g
      refine ex_aload_n (pc := 14) d_Md_deliver_14 rfl ?_
      refine ex_iload_n (pc := 15) d_Md_deliver_15 rfl ?_
      refine ex_cVV (as := [_]) (st := []) (pc := 16) rfl rfl k1 rfl rfl rfl (Nat.le_of_ble_eq_true rfl) (EX.mono h fun r3 M2 h => ?_)
      obtain ⟨rfl, h⟩ := h
      refine ⟨rfl, ?_⟩
      refine ex_aload_n (pc := 19) d_Md_deliver_19 rfl ?_
      obtain ⟨k4, h⟩ := h
      refine ex_getR (pc := 20) d_Md_deliver_20 rfl rfl k4 ?_
      refine ex_sipush (w := 440) (pc := 23) d_Md_deliver_23 (by decide) ?_
      obtain ⟨q5, e6, h⟩ := h
      obtain ⟨k7, h⟩ := h
      obtain ⟨b8, h⟩ := h
      refine ex_iald (pc := 26) d_Md_deliver_26 e6 k7 b8 ?_
      refine ex_istore_n (ls2 := [_, _, _]) (pc := 27) d_Md_deliver_27 (Nat.le_of_ble_eq_true rfl) rfl ?_
      replace h := h _ rfl
      refine ex_aload_n (pc := 28) d_Md_deliver_28 rfl ?_
      refine ex_getR (pc := 29) d_Md_deliver_29 rfl rfl k4 ?_
      refine ex_aload_n (pc := 32) d_Md_deliver_32 rfl ?_
      refine ex_getR (pc := 33) d_Md_deliver_33 rfl rfl k4 ?_
      refine ex_sipush (w := 442) (pc := 36) d_Md_deliver_36 (by decide) ?_
      obtain ⟨b10, h⟩ := h
      refine ex_iald (pc := 39) d_Md_deliver_39 e6 k7 b10 ?_
      obtain ⟨q11, e12, h⟩ := h
      obtain ⟨k13, h⟩ := h
      obtain ⟨b14, h⟩ := h
      refine ex_zald (pc := 40) d_Md_deliver_40 e12 k13 b14 ?_
      refine ex_if_ne (tgt := 73) (pc := 41) d_Md_deliver_41 (by decide) (fun g => ?_) (fun g => ?_)
      · replace h := h.1 g
        refine ex_iload_n (pc := 73) d_Md_deliver_73 rfl ?_
        exact ex_ret_i (pc := 74) d_Md_deliver_74 rfl h
      · replace h := h.2 g
        refine ex_aload_n (pc := 44) d_Md_deliver_44 rfl ?_
        refine ex_iload_n (pc := 45) d_Md_deliver_45 rfl ?_
        refine ex_aload_n (pc := 46) d_Md_deliver_46 rfl ?_
        refine ex_getR (pc := 47) d_Md_deliver_47 rfl rfl k4 ?_
        refine ex_sipush (w := 442) (pc := 50) d_Md_deliver_50 (by decide) ?_
        obtain ⟨b15, h⟩ := h
        refine ex_iald (pc := 53) d_Md_deliver_53 e6 k7 b15 ?_
        refine ex_aload_n (pc := 54) d_Md_deliver_54 rfl ?_
        refine ex_getR (pc := 55) d_Md_deliver_55 rfl rfl k4 ?_
        refine ex_sipush (w := 441) (pc := 58) d_Md_deliver_58 (by decide) ?_
        obtain ⟨b16, h⟩ := h
        refine ex_iald (pc := 61) d_Md_deliver_61 e6 k7 b16 ?_
        refine ex_aload_n (pc := 62) d_Md_deliver_62 rfl ?_
        refine ex_getR (pc := 63) d_Md_deliver_63 rfl rfl k4 ?_
        refine ex_sipush (w := 443) (pc := 66) d_Md_deliver_66 (by decide) ?_
        obtain ⟨b17, h⟩ := h
        refine ex_iald (pc := 69) d_Md_deliver_69 e6 k7 b17 ?_
        refine ex_cVV (as := [_, _, _, _]) (st := []) (pc := 70) rfl rfl k4 rfl rfl rfl (Nat.le_of_ble_eq_true rfl) (EX.mono h fun r19 M18 h => ?_)
        obtain ⟨rfl, h⟩ := h
        refine ⟨rfl, ?_⟩
        refine ex_iload_n (pc := 73) d_Md_deliver_73 rfl ?_
        exact ex_ret_i (pc := 74) d_Md_deliver_74 rfl h
    · replace h := h.2 g
      refine ex_iconst (w := (-1 : Int32)) (pc := 12) d_Md_deliver_12 (by decide) ?_
      exact ex_ret_i (pc := 13) d_Md_deliver_13 rfl h
theorem sg_Md_propose_0 {h0 : Nat} {v1 : Int32} {v2 : Int32} {v3 : Int32} {v4 : Int32} {M : me_M} {Q : Option me_V → me_M → Prop} (h : ((v1 < 0) → Q (some (.inl (-1 : Int32))) M) ∧ ((¬ v1 < 0) → mKd M h0 = 11 ∧ (((mI M 1640 h0 0) ≤ v1) → Q (some (.inl (-1 : Int32))) M) ∧ ((¬ (mI M 1640 h0 0) ≤ v1) → ((v2 < 0) → Q (some (.inl (-1 : Int32))) M) ∧ ((¬ v2 < 0) → ((3 < v2) → Q (some (.inl (-1 : Int32))) M) ∧ ((¬ 3 < v2) → ∃ q2, (mR M 1643 h0 0) = some q2 ∧ mKd M q2 = 101 ∧ vp_in v1 (mLn M q2) ∧ (((mI M 101 q2 v1.toNatClampNeg) = 0) → ∀ x6, x6 = (6 * v1) → EX eL X_Md_propose 38 [some (.inr (some h0)), some (.inl v1), some (.inl v2), some (.inl v3), some (.inl v4), some (.inl x6), none, none] [] M Q) ∧ ((¬ (mI M 101 q2 v1.toNatClampNeg) = 0) → Q (some (.inl (-1 : Int32))) M)))))) : EX eL X_Md_propose 0 [some (.inr (some h0)), some (.inl v1), some (.inl v2), some (.inl v3), some (.inl v4), none, none, none] [] M Q := by
  refine ex_iload_n (pc := 0) d_Md_propose_0 rfl ?_
  refine ex_if_lt (tgt := 30) (pc := 1) d_Md_propose_1 (by decide) (fun g => ?_) (fun g => ?_)
  · replace h := h.1 g
    refine ex_iconst (w := (-1 : Int32)) (pc := 30) d_Md_propose_30 (by decide) ?_
    exact ex_ret_i (pc := 31) d_Md_propose_31 rfl h
  · replace h := h.2 g
    refine ex_iload_n (pc := 4) d_Md_propose_4 rfl ?_
    refine ex_aload_n (pc := 5) d_Md_propose_5 rfl ?_
    obtain ⟨k1, h⟩ := h
    refine ex_getI (pc := 6) d_Md_propose_6 rfl rfl (by decide) k1 ?_
    refine ex_icmp_ge (tgt := 30) (pc := 9) d_Md_propose_9 (by decide) (fun g => ?_) (fun g => ?_)
    · replace h := h.1 g
      refine ex_iconst (w := (-1 : Int32)) (pc := 30) d_Md_propose_30 (by decide) ?_
      exact ex_ret_i (pc := 31) d_Md_propose_31 rfl h
    · replace h := h.2 g
      refine ex_iload_n (pc := 12) d_Md_propose_12 rfl ?_
      refine ex_if_lt (tgt := 30) (pc := 13) d_Md_propose_13 (by decide) (fun g => ?_) (fun g => ?_)
      · replace h := h.1 g
        refine ex_iconst (w := (-1 : Int32)) (pc := 30) d_Md_propose_30 (by decide) ?_
        exact ex_ret_i (pc := 31) d_Md_propose_31 rfl h
      · replace h := h.2 g
        refine ex_iload_n (pc := 16) d_Md_propose_16 rfl ?_
        refine ex_iconst (w := 3) (pc := 17) d_Md_propose_17 (by decide) ?_
        refine ex_icmp_gt (tgt := 30) (pc := 18) d_Md_propose_18 (by decide) (fun g => ?_) (fun g => ?_)
        · replace h := h.1 g
          refine ex_iconst (w := (-1 : Int32)) (pc := 30) d_Md_propose_30 (by decide) ?_
          exact ex_ret_i (pc := 31) d_Md_propose_31 rfl h
        · replace h := h.2 g
          refine ex_aload_n (pc := 21) d_Md_propose_21 rfl ?_
          refine ex_getR (pc := 22) d_Md_propose_22 rfl rfl k1 ?_
          refine ex_iload_n (pc := 25) d_Md_propose_25 rfl ?_
          obtain ⟨q2, e3, h⟩ := h
          obtain ⟨k4, h⟩ := h
          obtain ⟨b5, h⟩ := h
          refine ex_zald (pc := 26) d_Md_propose_26 e3 k4 b5 ?_
          refine ex_if_eq (tgt := 32) (pc := 27) d_Md_propose_27 (by decide) (fun g => ?_) (fun g => ?_)
          · replace h := h.1 g
            refine ex_bipush (w := 6) (pc := 32) d_Md_propose_32 (by decide) ?_
            refine ex_iload_n (pc := 34) d_Md_propose_34 rfl ?_
            refine ex_imul (pc := 35) d_Md_propose_35 ?_
            refine ex_istore (ls2 := [_, _, _, _, _, _, _, _]) (pc := 36) d_Md_propose_36 (Nat.le_of_ble_eq_true rfl) rfl ?_
            replace h := h _ rfl
            exact h
          · replace h := h.2 g
            refine ex_iconst (w := (-1 : Int32)) (pc := 30) d_Md_propose_30 (by decide) ?_
            exact ex_ret_i (pc := 31) d_Md_propose_31 rfl h
theorem sg_Md_propose_38 {h0 : Nat} {v1 : Int32} {v2 : Int32} {v3 : Int32} {v4 : Int32} {v5 : Int32} {M : me_M} {Q : Option me_V → me_M → Prop} (h : ((((6 * v1) + 6) ≤ v5) → Q (some (.inl (-1 : Int32))) M) ∧ ((¬ ((6 * v1) + 6) ≤ v5) → ∀ x1, x1 = ((30 * v1) + v5) → mKd M h0 = 11 ∧ ∃ q3, (mR M 1646 h0 0) = some q3 ∧ mKd M q3 = 100 ∧ vp_in x1 (mLn M q3) ∧ ((¬ (mI M 100 q3 x1.toNatClampNeg) = 0) → ∀ x7, x7 = v5 + Int32.ofInt 1 → EX eL X_Md_propose 38 [some (.inr (some h0)), some (.inl v1), some (.inl v2), some (.inl v3), some (.inl v4), some (.inl x7), none, none] [] M Q) ∧ (((mI M 100 q3 x1.toNatClampNeg) = 0) → ∃ q8, (mR M 1651 h0 0) = some q8 ∧ mKd M q8 = 100 ∧ vp_in x1 (mLn M q8) ∧ ((¬ (mI M 100 q8 x1.toNatClampNeg) = 0) → ∀ x12, x12 = v5 + Int32.ofInt 1 → EX eL X_Md_propose 38 [some (.inr (some h0)), some (.inl v1), some (.inl v2), some (.inl v3), some (.inl v4), some (.inl x12), none, none] [] M Q) ∧ (((mI M 100 q8 x1.toNatClampNeg) = 0) → ((v3 = 0) → ((v3 = 0) → EX eL X_Md_fit 0 [some (.inr (some h0)), some (.inl v1), some (.inl v5), some (.inl v2), some (.inl 0), some (.inl 1), some (.inl 0), none, none, none] [] M (fun r14 M13 => r14 = none ∧ mKd M13 h0 = 11 ∧ EX eL X_Md_start 0 [some (.inr (some h0)), some (.inl x1), some (.inl 0), some (.inl 0)] [] M13 (fun r17 M16 => r17 = none ∧ EX eL X_Md_propose 120 [some (.inr (some h0)), some (.inl v1), none, none, none, some (.inl v5), none, some (.inl 1)] [] M16 Q))) ∧ ((¬ v3 = 0) → EX eL X_Md_fit 0 [some (.inr (some h0)), some (.inl v1), some (.inl v5), some (.inl v2), some (.inl v4), some (.inl 1), some (.inl 0), none, none, none] [] M (fun r19 M18 => r19 = none ∧ mKd M18 h0 = 11 ∧ EX eL X_Md_start 0 [some (.inr (some h0)), some (.inl x1), some (.inl 0), some (.inl 0)] [] M18 (fun r22 M21 => r22 = none ∧ EX eL X_Md_propose 120 [some (.inr (some h0)), some (.inl v1), none, none, none, some (.inl v5), none, some (.inl 1)] [] M21 Q)))) ∧ ((¬ v3 = 0) → ((v3 = 0) → EX eL X_Md_fit 0 [some (.inr (some h0)), some (.inl v1), some (.inl v5), some (.inl (4 + v2)), some (.inl 0), some (.inl 1), some (.inl 0), none, none, none] [] M (fun r24 M23 => r24 = none ∧ mKd M23 h0 = 11 ∧ EX eL X_Md_start 0 [some (.inr (some h0)), some (.inl x1), some (.inl 0), some (.inl 0)] [] M23 (fun r27 M26 => r27 = none ∧ EX eL X_Md_propose 120 [some (.inr (some h0)), some (.inl v1), none, none, none, some (.inl v5), none, some (.inl 1)] [] M26 Q))) ∧ ((¬ v3 = 0) → EX eL X_Md_fit 0 [some (.inr (some h0)), some (.inl v1), some (.inl v5), some (.inl (4 + v2)), some (.inl v4), some (.inl 1), some (.inl 0), none, none, none] [] M (fun r29 M28 => r29 = none ∧ mKd M28 h0 = 11 ∧ EX eL X_Md_start 0 [some (.inr (some h0)), some (.inl x1), some (.inl 0), some (.inl 0)] [] M28 (fun r32 M31 => r32 = none ∧ EX eL X_Md_propose 120 [some (.inr (some h0)), some (.inl v1), none, none, none, some (.inl v5), none, some (.inl 1)] [] M31 Q)))))))) : EX eL X_Md_propose 38 [some (.inr (some h0)), some (.inl v1), some (.inl v2), some (.inl v3), some (.inl v4), some (.inl v5), none, none] [] M Q := by
  refine ex_iload (pc := 38) d_Md_propose_38 rfl ?_
  refine ex_bipush (w := 6) (pc := 40) d_Md_propose_40 (by decide) ?_
  refine ex_iload_n (pc := 42) d_Md_propose_42 rfl ?_
  refine ex_imul (pc := 43) d_Md_propose_43 ?_
  refine ex_bipush (w := 6) (pc := 44) d_Md_propose_44 (by decide) ?_
  refine ex_iadd (pc := 46) d_Md_propose_46 ?_
  refine ex_icmp_ge (tgt := 164) (pc := 47) d_Md_propose_47 (by decide) (fun g => ?_) (fun g => ?_)
  · replace h := h.1 g
    refine ex_iconst (w := (-1 : Int32)) (pc := 164) d_Md_propose_164 (by decide) ?_
    exact ex_ret_i (pc := 165) d_Md_propose_165 rfl h
  · replace h := h.2 g
    refine ex_bipush (w := 30) (pc := 50) d_Md_propose_50 (by decide) ?_
    refine ex_iload_n (pc := 52) d_Md_propose_52 rfl ?_
    refine ex_imul (pc := 53) d_Md_propose_53 ?_
    refine ex_iload (pc := 54) d_Md_propose_54 rfl ?_
    refine ex_iadd (pc := 56) d_Md_propose_56 ?_
    refine ex_istore (ls2 := [_, _, _, _, _, _, _, _]) (pc := 57) d_Md_propose_57 (Nat.le_of_ble_eq_true rfl) rfl ?_
    replace h := h _ rfl
    refine ex_aload_n (pc := 59) d_Md_propose_59 rfl ?_
    obtain ⟨k2, h⟩ := h
    refine ex_getR (pc := 60) d_Md_propose_60 rfl rfl k2 ?_
    refine ex_iload (pc := 63) d_Md_propose_63 rfl ?_
    obtain ⟨q3, e4, h⟩ := h
    obtain ⟨k5, h⟩ := h
    obtain ⟨b6, h⟩ := h
    refine ex_iald (pc := 65) d_Md_propose_65 e4 k5 b6 ?_
    refine ex_if_ne (tgt := 158) (pc := 66) d_Md_propose_66 (by decide) (fun g => ?_) (fun g => ?_)
    · replace h := h.1 g
      refine ex_iinc (ls2 := [_, _, _, _, _, _, _, _]) (pc := 158) d_Md_propose_158 rfl rfl ?_
      replace h := h _ rfl
      refine ex_goto (tgt := 38) (pc := 161) d_Md_propose_161 (by decide) ?_
      refine ex_drop (k := 6) (ls2 := [_, _, _, _, _, _, _, _]) rfl ?_
      exact h
    · replace h := h.2 g
      refine ex_aload_n (pc := 69) d_Md_propose_69 rfl ?_
      refine ex_getR (pc := 70) d_Md_propose_70 rfl rfl k2 ?_
      refine ex_iload (pc := 73) d_Md_propose_73 rfl ?_
      obtain ⟨q8, e9, h⟩ := h
      obtain ⟨k10, h⟩ := h
      obtain ⟨b11, h⟩ := h
      refine ex_iald (pc := 75) d_Md_propose_75 e9 k10 b11 ?_
      refine ex_if_ne (tgt := 158) (pc := 76) d_Md_propose_76 (by decide) (fun g => ?_) (fun g => ?_)
      · replace h := h.1 g
        refine ex_iinc (ls2 := [_, _, _, _, _, _, _, _]) (pc := 158) d_Md_propose_158 rfl rfl ?_
        replace h := h _ rfl
        refine ex_goto (tgt := 38) (pc := 161) d_Md_propose_161 (by decide) ?_
        refine ex_drop (k := 6) (ls2 := [_, _, _, _, _, _, _, _]) rfl ?_
        exact h
      · replace h := h.2 g
        refine ex_aload_n (pc := 79) d_Md_propose_79 rfl ?_
        refine ex_iload_n (pc := 80) d_Md_propose_80 rfl ?_
        refine ex_iload (pc := 81) d_Md_propose_81 rfl ?_
        refine ex_iload_n (pc := 83) d_Md_propose_83 rfl ?_
        refine ex_if_eq (tgt := 93) (pc := 84) d_Md_propose_84 (by decide) (fun g => ?_) (fun g => ?_)
        · replace h := h.1 g
          refine ex_iload_n (pc := 93) d_Md_propose_93 rfl ?_
          refine ex_iload_n (pc := 94) d_Md_propose_94 rfl ?_
          refine ex_if_eq (tgt := 103) (pc := 95) d_Md_propose_95 (by decide) (fun g => ?_) (fun g => ?_)
          · replace h := h.1 g
            refine ex_iconst (w := 0) (pc := 103) d_Md_propose_103 (by decide) ?_
            refine ex_iconst (w := 1) (pc := 104) d_Md_propose_104 (by decide) ?_
            refine ex_iconst (w := 0) (pc := 105) d_Md_propose_105 (by decide) ?_
            refine ex_cVV (as := [_, _, _, _, _, _]) (st := []) (pc := 106) rfl rfl k2 rfl rfl rfl (Nat.le_of_ble_eq_true rfl) (EX.mono h fun r14 M13 h => ?_)
            obtain ⟨rfl, h⟩ := h
            refine ⟨rfl, ?_⟩
            refine ex_aload_n (pc := 109) d_Md_propose_109 rfl ?_
            refine ex_iload (pc := 110) d_Md_propose_110 rfl ?_
            refine ex_iconst (w := 0) (pc := 112) d_Md_propose_112 (by decide) ?_
            refine ex_iconst (w := 0) (pc := 113) d_Md_propose_113 (by decide) ?_
            obtain ⟨k15, h⟩ := h
            refine ex_cVV (as := [_, _, _]) (st := []) (pc := 114) rfl rfl k15 rfl rfl rfl (Nat.le_of_ble_eq_true rfl) (EX.mono h fun r17 M16 h => ?_)
            obtain ⟨rfl, h⟩ := h
            refine ⟨rfl, ?_⟩
            refine ex_iconst (w := 1) (pc := 117) d_Md_propose_117 (by decide) ?_
            refine ex_istore (ls2 := [_, _, _, _, _, _, _, _]) (pc := 118) d_Md_propose_118 (Nat.le_of_ble_eq_true rfl) rfl ?_
            refine ex_drop (k := 2) (ls2 := [_, _, _, _, _, _, _, _]) rfl ?_
            refine ex_drop (k := 3) (ls2 := [_, _, _, _, _, _, _, _]) rfl ?_
            refine ex_drop (k := 4) (ls2 := [_, _, _, _, _, _, _, _]) rfl ?_
            refine ex_drop (k := 6) (ls2 := [_, _, _, _, _, _, _, _]) rfl ?_
            exact h
          · replace h := h.2 g
            refine ex_iload (pc := 98) d_Md_propose_98 rfl ?_
            refine ex_goto (tgt := 104) (pc := 100) d_Md_propose_100 (by decide) ?_
            refine ex_iconst (w := 1) (pc := 104) d_Md_propose_104 (by decide) ?_
            refine ex_iconst (w := 0) (pc := 105) d_Md_propose_105 (by decide) ?_
            refine ex_cVV (as := [_, _, _, _, _, _]) (st := []) (pc := 106) rfl rfl k2 rfl rfl rfl (Nat.le_of_ble_eq_true rfl) (EX.mono h fun r19 M18 h => ?_)
            obtain ⟨rfl, h⟩ := h
            refine ⟨rfl, ?_⟩
            refine ex_aload_n (pc := 109) d_Md_propose_109 rfl ?_
            refine ex_iload (pc := 110) d_Md_propose_110 rfl ?_
            refine ex_iconst (w := 0) (pc := 112) d_Md_propose_112 (by decide) ?_
            refine ex_iconst (w := 0) (pc := 113) d_Md_propose_113 (by decide) ?_
            obtain ⟨k20, h⟩ := h
            refine ex_cVV (as := [_, _, _]) (st := []) (pc := 114) rfl rfl k20 rfl rfl rfl (Nat.le_of_ble_eq_true rfl) (EX.mono h fun r22 M21 h => ?_)
            obtain ⟨rfl, h⟩ := h
            refine ⟨rfl, ?_⟩
            refine ex_iconst (w := 1) (pc := 117) d_Md_propose_117 (by decide) ?_
            refine ex_istore (ls2 := [_, _, _, _, _, _, _, _]) (pc := 118) d_Md_propose_118 (Nat.le_of_ble_eq_true rfl) rfl ?_
            refine ex_drop (k := 2) (ls2 := [_, _, _, _, _, _, _, _]) rfl ?_
            refine ex_drop (k := 3) (ls2 := [_, _, _, _, _, _, _, _]) rfl ?_
            refine ex_drop (k := 4) (ls2 := [_, _, _, _, _, _, _, _]) rfl ?_
            refine ex_drop (k := 6) (ls2 := [_, _, _, _, _, _, _, _]) rfl ?_
            exact h
        · replace h := h.2 g
          refine ex_iconst (w := 4) (pc := 87) d_Md_propose_87 (by decide) ?_
          refine ex_iload_n (pc := 88) d_Md_propose_88 rfl ?_
          refine ex_iadd (pc := 89) d_Md_propose_89 ?_
          refine ex_goto (tgt := 94) (pc := 90) d_Md_propose_90 (by decide) ?_
          refine ex_iload_n (pc := 94) d_Md_propose_94 rfl ?_
          refine ex_if_eq (tgt := 103) (pc := 95) d_Md_propose_95 (by decide) (fun g => ?_) (fun g => ?_)
          · replace h := h.1 g
            refine ex_iconst (w := 0) (pc := 103) d_Md_propose_103 (by decide) ?_
            refine ex_iconst (w := 1) (pc := 104) d_Md_propose_104 (by decide) ?_
            refine ex_iconst (w := 0) (pc := 105) d_Md_propose_105 (by decide) ?_
            refine ex_cVV (as := [_, _, _, _, _, _]) (st := []) (pc := 106) rfl rfl k2 rfl rfl rfl (Nat.le_of_ble_eq_true rfl) (EX.mono h fun r24 M23 h => ?_)
            obtain ⟨rfl, h⟩ := h
            refine ⟨rfl, ?_⟩
            refine ex_aload_n (pc := 109) d_Md_propose_109 rfl ?_
            refine ex_iload (pc := 110) d_Md_propose_110 rfl ?_
            refine ex_iconst (w := 0) (pc := 112) d_Md_propose_112 (by decide) ?_
            refine ex_iconst (w := 0) (pc := 113) d_Md_propose_113 (by decide) ?_
            obtain ⟨k25, h⟩ := h
            refine ex_cVV (as := [_, _, _]) (st := []) (pc := 114) rfl rfl k25 rfl rfl rfl (Nat.le_of_ble_eq_true rfl) (EX.mono h fun r27 M26 h => ?_)
            obtain ⟨rfl, h⟩ := h
            refine ⟨rfl, ?_⟩
            refine ex_iconst (w := 1) (pc := 117) d_Md_propose_117 (by decide) ?_
            refine ex_istore (ls2 := [_, _, _, _, _, _, _, _]) (pc := 118) d_Md_propose_118 (Nat.le_of_ble_eq_true rfl) rfl ?_
            refine ex_drop (k := 2) (ls2 := [_, _, _, _, _, _, _, _]) rfl ?_
            refine ex_drop (k := 3) (ls2 := [_, _, _, _, _, _, _, _]) rfl ?_
            refine ex_drop (k := 4) (ls2 := [_, _, _, _, _, _, _, _]) rfl ?_
            refine ex_drop (k := 6) (ls2 := [_, _, _, _, _, _, _, _]) rfl ?_
            exact h
          · replace h := h.2 g
            refine ex_iload (pc := 98) d_Md_propose_98 rfl ?_
            refine ex_goto (tgt := 104) (pc := 100) d_Md_propose_100 (by decide) ?_
            refine ex_iconst (w := 1) (pc := 104) d_Md_propose_104 (by decide) ?_
            refine ex_iconst (w := 0) (pc := 105) d_Md_propose_105 (by decide) ?_
            refine ex_cVV (as := [_, _, _, _, _, _]) (st := []) (pc := 106) rfl rfl k2 rfl rfl rfl (Nat.le_of_ble_eq_true rfl) (EX.mono h fun r29 M28 h => ?_)
            obtain ⟨rfl, h⟩ := h
            refine ⟨rfl, ?_⟩
            refine ex_aload_n (pc := 109) d_Md_propose_109 rfl ?_
            refine ex_iload (pc := 110) d_Md_propose_110 rfl ?_
            refine ex_iconst (w := 0) (pc := 112) d_Md_propose_112 (by decide) ?_
            refine ex_iconst (w := 0) (pc := 113) d_Md_propose_113 (by decide) ?_
            obtain ⟨k30, h⟩ := h
            refine ex_cVV (as := [_, _, _]) (st := []) (pc := 114) rfl rfl k30 rfl rfl rfl (Nat.le_of_ble_eq_true rfl) (EX.mono h fun r32 M31 h => ?_)
            obtain ⟨rfl, h⟩ := h
            refine ⟨rfl, ?_⟩
            refine ex_iconst (w := 1) (pc := 117) d_Md_propose_117 (by decide) ?_
            refine ex_istore (ls2 := [_, _, _, _, _, _, _, _]) (pc := 118) d_Md_propose_118 (Nat.le_of_ble_eq_true rfl) rfl ?_
            refine ex_drop (k := 2) (ls2 := [_, _, _, _, _, _, _, _]) rfl ?_
            refine ex_drop (k := 3) (ls2 := [_, _, _, _, _, _, _, _]) rfl ?_
            refine ex_drop (k := 4) (ls2 := [_, _, _, _, _, _, _, _]) rfl ?_
            refine ex_drop (k := 6) (ls2 := [_, _, _, _, _, _, _, _]) rfl ?_
            exact h
theorem sg_Md_propose_120 {h0 : Nat} {v1 : Int32} {v5 : Int32} {v7 : Int32} {M : me_M} {Q : Option me_V → me_M → Prop} (h : mKd M h0 = 11 ∧ ((((mI M 1640 h0 0) - 2) < v7) → Q (some (.inl v5)) M) ∧ ((¬ ((mI M 1640 h0 0) - 2) < v7) → ¬ (mI M 1640 h0 0) = 0 ∧ EX eL X_Md_send 0 [some (.inr (some h0)), some (.inl 0), some (.inl v1), some (.inl ((v1 + v7) - (v1 + v7) / (mI M 1640 h0 0) * (mI M 1640 h0 0))), some (.inl v5), some (.inl 0), none, none] [] M (fun r4 M3 => r4 = none ∧ ∀ x5, x5 = v7 + Int32.ofInt 1 → EX eL X_Md_propose 120 [some (.inr (some h0)), some (.inl v1), none, none, none, some (.inl v5), none, some (.inl x5)] [] M3 Q))) : EX eL X_Md_propose 120 [some (.inr (some h0)), some (.inl v1), none, none, none, some (.inl v5), none, some (.inl v7)] [] M Q := by
  refine ex_iload (pc := 120) d_Md_propose_120 rfl ?_
  refine ex_aload_n (pc := 122) d_Md_propose_122 rfl ?_
  obtain ⟨k1, h⟩ := h
  refine ex_getI (pc := 123) d_Md_propose_123 rfl rfl (by decide) k1 ?_
  refine ex_iconst (w := 2) (pc := 126) d_Md_propose_126 (by decide) ?_
  refine ex_isub (pc := 127) d_Md_propose_127 ?_
  refine ex_icmp_gt (tgt := 155) (pc := 128) d_Md_propose_128 (by decide) (fun g => ?_) (fun g => ?_)
  · replace h := h.1 g
    refine ex_iload (pc := 155) d_Md_propose_155 rfl ?_
    exact ex_ret_i (pc := 157) d_Md_propose_157 rfl h
  · replace h := h.2 g
    refine ex_aload_n (pc := 131) d_Md_propose_131 rfl ?_
    refine ex_iconst (w := 0) (pc := 132) d_Md_propose_132 (by decide) ?_
    refine ex_iload_n (pc := 133) d_Md_propose_133 rfl ?_
    refine ex_iload_n (pc := 134) d_Md_propose_134 rfl ?_
    refine ex_iload (pc := 135) d_Md_propose_135 rfl ?_
    refine ex_iadd (pc := 137) d_Md_propose_137 ?_
    refine ex_aload_n (pc := 138) d_Md_propose_138 rfl ?_
    refine ex_getI (pc := 139) d_Md_propose_139 rfl rfl (by decide) k1 ?_
    obtain ⟨n2, h⟩ := h
    refine ex_irem (pc := 142) d_Md_propose_142 n2 ?_
    refine ex_iload (pc := 143) d_Md_propose_143 rfl ?_
    refine ex_iconst (w := 0) (pc := 145) d_Md_propose_145 (by decide) ?_
    refine ex_cVV (as := [_, _, _, _, _]) (st := []) (pc := 146) rfl rfl k1 rfl rfl rfl (Nat.le_of_ble_eq_true rfl) (EX.mono h fun r4 M3 h => ?_)
    obtain ⟨rfl, h⟩ := h
    refine ⟨rfl, ?_⟩
    refine ex_iinc (ls2 := [_, _, _, _, _, _, _, _]) (pc := 149) d_Md_propose_149 rfl rfl ?_
    replace h := h _ rfl
    refine ex_goto (tgt := 120) (pc := 152) d_Md_propose_152 (by decide) ?_
    exact h
theorem sg_Md_prepare_0 {h0 : Nat} {v1 : Int32} {v2 : Int32} {M : me_M} {Q : Option me_V → me_M → Prop} (h : mKd M h0 = 11 ∧ EX eL X_Md_known 0 [some (.inr (some h0)), some (.inl v1), some (.inl v2)] [] M (fun r3 M2 => ∃ x4, r3 = some (.inl x4) ∧ ((x4 = 0) → Q (some (.inl (-1 : Int32))) M2) ∧ ((¬ x4 = 0) → mKd M2 h0 = 11 ∧ ∃ q6, (mR M2 1643 h0 0) = some q6 ∧ mKd M2 q6 = 101 ∧ vp_in v1 (mLn M2 q6) ∧ ((¬ (mI M2 101 q6 v1.toNatClampNeg) = 0) → Q (some (.inl (-1 : Int32))) M2) ∧ (((mI M2 101 q6 v1.toNatClampNeg) = 0) → ∃ q10, (mR M2 1646 h0 0) = some q10 ∧ mKd M2 q10 = 100 ∧ vp_in ((30 * v1) + v2) (mLn M2 q10) ∧ (((mI M2 100 q10 ((30 * v1) + v2).toNatClampNeg) < 3) → ∀ x14, x14 = ((30 * v1) + v2) → ∃ q15, (mR M2 1651 h0 0) = some q15 ∧ mKd M2 q15 = 100 ∧ vp_in x14 (mLn M2 q15) ∧ ∀ x19, x19 = ((mI M2 100 q15 x14.toNatClampNeg) + 1) → EX eL X_Md_prepare 52 [some (.inr (some h0)), some (.inl v1), some (.inl v2), some (.inl x14), some (.inl x19)] [] M2 Q) ∧ ((¬ (mI M2 100 q10 ((30 * v1) + v2).toNatClampNeg) < 3) → Q (some (.inl (-1 : Int32))) M2))))) : EX eL X_Md_prepare 0 [some (.inr (some h0)), some (.inl v1), some (.inl v2), none, none] [] M Q := by
  refine ex_aload_n (pc := 0) d_Md_prepare_0 rfl ?_
  refine ex_iload_n (pc := 1) d_Md_prepare_1 rfl ?_
  refine ex_iload_n (pc := 2) d_Md_prepare_2 rfl ?_
  obtain ⟨k1, h⟩ := h
  refine ex_cVI (as := [_, _]) (st := []) (pc := 3) rfl rfl k1 rfl rfl rfl (Nat.le_of_ble_eq_true rfl) (EX.mono h fun r3 M2 h => ?_)
  obtain ⟨x4, rfl, h⟩ := h
  refine ⟨_, rfl, ?_⟩
  refine ex_if_eq (tgt := 33) (pc := 6) d_Md_prepare_6 (by decide) (fun g => ?_) (fun g => ?_)
  · replace h := h.1 g
    refine ex_iconst (w := (-1 : Int32)) (pc := 33) d_Md_prepare_33 (by decide) ?_
    exact ex_ret_i (pc := 34) d_Md_prepare_34 rfl h
  · replace h := h.2 g
    refine ex_aload_n (pc := 9) d_Md_prepare_9 rfl ?_
    obtain ⟨k5, h⟩ := h
    refine ex_getR (pc := 10) d_Md_prepare_10 rfl rfl k5 ?_
    refine ex_iload_n (pc := 13) d_Md_prepare_13 rfl ?_
    obtain ⟨q6, e7, h⟩ := h
    obtain ⟨k8, h⟩ := h
    obtain ⟨b9, h⟩ := h
    refine ex_zald (pc := 14) d_Md_prepare_14 e7 k8 b9 ?_
    refine ex_if_ne (tgt := 33) (pc := 15) d_Md_prepare_15 (by decide) (fun g => ?_) (fun g => ?_)
    · replace h := h.1 g
      refine ex_iconst (w := (-1 : Int32)) (pc := 33) d_Md_prepare_33 (by decide) ?_
      exact ex_ret_i (pc := 34) d_Md_prepare_34 rfl h
    · replace h := h.2 g
      refine ex_aload_n (pc := 18) d_Md_prepare_18 rfl ?_
      refine ex_getR (pc := 19) d_Md_prepare_19 rfl rfl k5 ?_
      refine ex_bipush (w := 30) (pc := 22) d_Md_prepare_22 (by decide) ?_
      refine ex_iload_n (pc := 24) d_Md_prepare_24 rfl ?_
      refine ex_imul (pc := 25) d_Md_prepare_25 ?_
      refine ex_iload_n (pc := 26) d_Md_prepare_26 rfl ?_
      refine ex_iadd (pc := 27) d_Md_prepare_27 ?_
      obtain ⟨q10, e11, h⟩ := h
      obtain ⟨k12, h⟩ := h
      obtain ⟨b13, h⟩ := h
      refine ex_iald (pc := 28) d_Md_prepare_28 e11 k12 b13 ?_
      refine ex_iconst (w := 3) (pc := 29) d_Md_prepare_29 (by decide) ?_
      refine ex_icmp_lt (tgt := 35) (pc := 30) d_Md_prepare_30 (by decide) (fun g => ?_) (fun g => ?_)
      · replace h := h.1 g
        refine ex_bipush (w := 30) (pc := 35) d_Md_prepare_35 (by decide) ?_
        refine ex_iload_n (pc := 37) d_Md_prepare_37 rfl ?_
        refine ex_imul (pc := 38) d_Md_prepare_38 ?_
        refine ex_iload_n (pc := 39) d_Md_prepare_39 rfl ?_
        refine ex_iadd (pc := 40) d_Md_prepare_40 ?_
        refine ex_istore_n (ls2 := [_, _, _, _, _]) (pc := 41) d_Md_prepare_41 (Nat.le_of_ble_eq_true rfl) rfl ?_
        replace h := h _ rfl
        refine ex_aload_n (pc := 42) d_Md_prepare_42 rfl ?_
        refine ex_getR (pc := 43) d_Md_prepare_43 rfl rfl k5 ?_
        refine ex_iload_n (pc := 46) d_Md_prepare_46 rfl ?_
        obtain ⟨q15, e16, h⟩ := h
        obtain ⟨k17, h⟩ := h
        obtain ⟨b18, h⟩ := h
        refine ex_iald (pc := 47) d_Md_prepare_47 e16 k17 b18 ?_
        refine ex_iconst (w := 1) (pc := 48) d_Md_prepare_48 (by decide) ?_
        refine ex_iadd (pc := 49) d_Md_prepare_49 ?_
        refine ex_istore (ls2 := [_, _, _, _, _]) (pc := 50) d_Md_prepare_50 (Nat.le_of_ble_eq_true rfl) rfl ?_
        replace h := h _ rfl
        exact h
      · replace h := h.2 g
        refine ex_iconst (w := (-1 : Int32)) (pc := 33) d_Md_prepare_33 (by decide) ?_
        exact ex_ret_i (pc := 34) d_Md_prepare_34 rfl h
theorem sg_Md_prepare_52 {h0 : Nat} {v1 : Int32} {v2 : Int32} {v3 : Int32} {v4 : Int32} {M : me_M} {Q : Option me_V → me_M → Prop} (h : mKd M h0 = 11 ∧ ¬ (mI M 1640 h0 0) = 0 ∧ (((v4 - v4 / (mI M 1640 h0 0) * (mI M 1640 h0 0)) = v1) → ∃ q3, (mR M 1651 h0 0) = some q3 ∧ mKd M q3 = 100 ∧ vp_in v3 (mLn M q3) ∧ ∀ M7, M7 = mSetI M 100 q3 v3.toNatClampNeg v4 → EX eL X_Md_start 0 [some (.inr (some h0)), some (.inl v3), some (.inl 3), some (.inl v4)] [] M7 (fun r9 M8 => r9 = none ∧ mKd M8 h0 = 11 ∧ EX eL X_Md_sendAll 0 [some (.inr (some h0)), some (.inl 5), some (.inl v1), some (.inl v2), some (.inl v4), none] [] M8 (fun r12 M11 => r12 = none ∧ Q (some (.inl v4)) M11))) ∧ ((¬ (v4 - v4 / (mI M 1640 h0 0) * (mI M 1640 h0 0)) = v1) → ∀ x13, x13 = v4 + Int32.ofInt 1 → EX eL X_Md_prepare 52 [some (.inr (some h0)), some (.inl v1), some (.inl v2), some (.inl v3), some (.inl x13)] [] M Q)) : EX eL X_Md_prepare 52 [some (.inr (some h0)), some (.inl v1), some (.inl v2), some (.inl v3), some (.inl v4)] [] M Q := by
  refine ex_iload (pc := 52) d_Md_prepare_52 rfl ?_
  refine ex_aload_n (pc := 54) d_Md_prepare_54 rfl ?_
  obtain ⟨k1, h⟩ := h
  refine ex_getI (pc := 55) d_Md_prepare_55 rfl rfl (by decide) k1 ?_
  obtain ⟨n2, h⟩ := h
  refine ex_irem (pc := 58) d_Md_prepare_58 n2 ?_
  refine ex_iload_n (pc := 59) d_Md_prepare_59 rfl ?_
  refine ex_icmp_eq (tgt := 69) (pc := 60) d_Md_prepare_60 (by decide) (fun g => ?_) (fun g => ?_)
  · replace h := h.1 g
    refine ex_aload_n (pc := 69) d_Md_prepare_69 rfl ?_
    refine ex_getR (pc := 70) d_Md_prepare_70 rfl rfl k1 ?_
    refine ex_iload_n (pc := 73) d_Md_prepare_73 rfl ?_
    refine ex_iload (pc := 74) d_Md_prepare_74 rfl ?_
    obtain ⟨q3, e4, h⟩ := h
    obtain ⟨k5, h⟩ := h
    obtain ⟨b6, h⟩ := h
    refine ex_iast (pc := 76) d_Md_prepare_76 e4 k5 b6 ?_
    replace h := h _ rfl
    refine ex_aload_n (pc := 77) d_Md_prepare_77 rfl ?_
    refine ex_iload_n (pc := 78) d_Md_prepare_78 rfl ?_
    refine ex_iconst (w := 3) (pc := 79) d_Md_prepare_79 (by decide) ?_
    refine ex_iload (pc := 80) d_Md_prepare_80 rfl ?_
    refine ex_cVV (as := [_, _, _]) (st := []) (pc := 82) rfl rfl k1 rfl rfl rfl (Nat.le_of_ble_eq_true rfl) (EX.mono h fun r9 M8 h => ?_)
    obtain ⟨rfl, h⟩ := h
    refine ⟨rfl, ?_⟩
    refine ex_aload_n (pc := 85) d_Md_prepare_85 rfl ?_
    refine ex_iconst (w := 5) (pc := 86) d_Md_prepare_86 (by decide) ?_
    refine ex_iload_n (pc := 87) d_Md_prepare_87 rfl ?_
    refine ex_iload_n (pc := 88) d_Md_prepare_88 rfl ?_
    refine ex_iload (pc := 89) d_Md_prepare_89 rfl ?_
    obtain ⟨k10, h⟩ := h
    refine ex_cVV (as := [_, _, _, _]) (st := []) (pc := 91) rfl rfl k10 rfl rfl rfl (Nat.le_of_ble_eq_true rfl) (EX.mono h fun r12 M11 h => ?_)
    obtain ⟨rfl, h⟩ := h
    refine ⟨rfl, ?_⟩
    refine ex_iload (pc := 94) d_Md_prepare_94 rfl ?_
    exact ex_ret_i (pc := 96) d_Md_prepare_96 rfl h
  · replace h := h.2 g
    refine ex_iinc (ls2 := [_, _, _, _, _]) (pc := 63) d_Md_prepare_63 rfl rfl ?_
    replace h := h _ rfl
    refine ex_goto (tgt := 52) (pc := 66) d_Md_prepare_66 (by decide) ?_
    exact h
theorem sg_Md_crash_0 {h0 : Nat} {v1 : Int32} {M : me_M} {Q : Option me_V → me_M → Prop} (h : EX eL X_Md_crash 4 [some (.inr (some h0)), some (.inl v1), some (.inl 0), some (.inl 0)] [] M Q) : EX eL X_Md_crash 0 [some (.inr (some h0)), some (.inl v1), none, none] [] M Q := by
  refine ex_iconst (w := 0) (pc := 0) d_Md_crash_0 (by decide) ?_
  refine ex_istore_n (ls2 := [_, _, _, _]) (pc := 1) d_Md_crash_1 (Nat.le_of_ble_eq_true rfl) rfl ?_
  refine ex_iconst (w := 0) (pc := 2) d_Md_crash_2 (by decide) ?_
  refine ex_istore_n (ls2 := [_, _, _, _]) (pc := 3) d_Md_crash_3 (Nat.le_of_ble_eq_true rfl) rfl ?_
  exact h
theorem sg_Md_crash_4 {h0 : Nat} {v1 : Int32} {v2 : Int32} {v3 : Int32} {M : me_M} {Q : Option me_V → me_M → Prop} (h : mKd M h0 = 11 ∧ (((mI M 1640 h0 0) ≤ v3) → ((v1 < 0) → Q (some (.inl 0)) M) ∧ ((¬ v1 < 0) → (((mI M 1640 h0 0) ≤ v1) → Q (some (.inl 0)) M) ∧ ((¬ (mI M 1640 h0 0) ≤ v1) → ∃ q2, (mR M 1643 h0 0) = some q2 ∧ mKd M q2 = 101 ∧ vp_in v1 (mLn M q2) ∧ ((¬ (mI M 101 q2 v1.toNatClampNeg) = 0) → Q (some (.inl 0)) M) ∧ (((mI M 101 q2 v1.toNatClampNeg) = 0) → ((v2 < (mI M 1641 h0 0)) → vp_in v1 (mLn M q2) ∧ ∀ M7, M7 = mSetI M 101 q2 v1.toNatClampNeg 1 → Q (some (.inl 1)) M7) ∧ ((¬ v2 < (mI M 1641 h0 0)) → Q (some (.inl 0)) M))))) ∧ ((¬ (mI M 1640 h0 0) ≤ v3) → ∃ q8, (mR M 1643 h0 0) = some q8 ∧ mKd M q8 = 101 ∧ vp_in v3 (mLn M q8) ∧ (((mI M 101 q8 v3.toNatClampNeg) = 0) → ∀ x12, x12 = (v2 + 0) → ∀ x13, x13 = v3 + Int32.ofInt 1 → EX eL X_Md_crash 4 [some (.inr (some h0)), some (.inl v1), some (.inl x12), some (.inl x13)] [] M Q) ∧ ((¬ (mI M 101 q8 v3.toNatClampNeg) = 0) → ∀ x14, x14 = (v2 + 1) → ∀ x15, x15 = v3 + Int32.ofInt 1 → EX eL X_Md_crash 4 [some (.inr (some h0)), some (.inl v1), some (.inl x14), some (.inl x15)] [] M Q))) : EX eL X_Md_crash 4 [some (.inr (some h0)), some (.inl v1), some (.inl v2), some (.inl v3)] [] M Q := by
  refine ex_iload_n (pc := 4) d_Md_crash_4 rfl ?_
  refine ex_aload_n (pc := 5) d_Md_crash_5 rfl ?_
  obtain ⟨k1, h⟩ := h
  refine ex_getI (pc := 6) d_Md_crash_6 rfl rfl (by decide) k1 ?_
  refine ex_icmp_ge (tgt := 35) (pc := 9) d_Md_crash_9 (by decide) (fun g => ?_) (fun g => ?_)
  · replace h := h.1 g
    refine ex_iload_n (pc := 35) d_Md_crash_35 rfl ?_
    refine ex_if_lt (tgt := 64) (pc := 36) d_Md_crash_36 (by decide) (fun g => ?_) (fun g => ?_)
    · replace h := h.1 g
      refine ex_iconst (w := 0) (pc := 64) d_Md_crash_64 (by decide) ?_
      exact ex_ret_z (pc := 65) d_Md_crash_65 rfl (Or.inl rfl) h
    · replace h := h.2 g
      refine ex_iload_n (pc := 39) d_Md_crash_39 rfl ?_
      refine ex_aload_n (pc := 40) d_Md_crash_40 rfl ?_
      refine ex_getI (pc := 41) d_Md_crash_41 rfl rfl (by decide) k1 ?_
      refine ex_icmp_ge (tgt := 64) (pc := 44) d_Md_crash_44 (by decide) (fun g => ?_) (fun g => ?_)
      · replace h := h.1 g
        refine ex_iconst (w := 0) (pc := 64) d_Md_crash_64 (by decide) ?_
        exact ex_ret_z (pc := 65) d_Md_crash_65 rfl (Or.inl rfl) h
      · replace h := h.2 g
        refine ex_aload_n (pc := 47) d_Md_crash_47 rfl ?_
        refine ex_getR (pc := 48) d_Md_crash_48 rfl rfl k1 ?_
        refine ex_iload_n (pc := 51) d_Md_crash_51 rfl ?_
        obtain ⟨q2, e3, h⟩ := h
        obtain ⟨k4, h⟩ := h
        obtain ⟨b5, h⟩ := h
        refine ex_zald (pc := 52) d_Md_crash_52 e3 k4 b5 ?_
        refine ex_if_ne (tgt := 64) (pc := 53) d_Md_crash_53 (by decide) (fun g => ?_) (fun g => ?_)
        · replace h := h.1 g
          refine ex_iconst (w := 0) (pc := 64) d_Md_crash_64 (by decide) ?_
          exact ex_ret_z (pc := 65) d_Md_crash_65 rfl (Or.inl rfl) h
        · replace h := h.2 g
          refine ex_iload_n (pc := 56) d_Md_crash_56 rfl ?_
          refine ex_aload_n (pc := 57) d_Md_crash_57 rfl ?_
          refine ex_getI (pc := 58) d_Md_crash_58 rfl rfl (by decide) k1 ?_
          refine ex_icmp_lt (tgt := 66) (pc := 61) d_Md_crash_61 (by decide) (fun g => ?_) (fun g => ?_)
          · replace h := h.1 g
            refine ex_aload_n (pc := 66) d_Md_crash_66 rfl ?_
            refine ex_getR (pc := 67) d_Md_crash_67 rfl rfl k1 ?_
            refine ex_iload_n (pc := 70) d_Md_crash_70 rfl ?_
            refine ex_iconst (w := 1) (pc := 71) d_Md_crash_71 (by decide) ?_
            obtain ⟨b6, h⟩ := h
            refine ex_zast (pc := 72) d_Md_crash_72 e3 k4 b6 (Or.inr rfl) ?_
            replace h := h _ rfl
            refine ex_iconst (w := 1) (pc := 73) d_Md_crash_73 (by decide) ?_
            exact ex_ret_z (pc := 74) d_Md_crash_74 rfl (Or.inr rfl) h
          · replace h := h.2 g
            refine ex_iconst (w := 0) (pc := 64) d_Md_crash_64 (by decide) ?_
            exact ex_ret_z (pc := 65) d_Md_crash_65 rfl (Or.inl rfl) h
  · replace h := h.2 g
    refine ex_iload_n (pc := 12) d_Md_crash_12 rfl ?_
    refine ex_aload_n (pc := 13) d_Md_crash_13 rfl ?_
    refine ex_getR (pc := 14) d_Md_crash_14 rfl rfl k1 ?_
    refine ex_iload_n (pc := 17) d_Md_crash_17 rfl ?_
    obtain ⟨q8, e9, h⟩ := h
    obtain ⟨k10, h⟩ := h
    obtain ⟨b11, h⟩ := h
    refine ex_zald (pc := 18) d_Md_crash_18 e9 k10 b11 ?_
    refine ex_if_eq (tgt := 26) (pc := 19) d_Md_crash_19 (by decide) (fun g => ?_) (fun g => ?_)
    · replace h := h.1 g
      refine ex_iconst (w := 0) (pc := 26) d_Md_crash_26 (by decide) ?_
      refine ex_iadd (pc := 27) d_Md_crash_27 ?_
      refine ex_istore_n (ls2 := [_, _, _, _]) (pc := 28) d_Md_crash_28 (Nat.le_of_ble_eq_true rfl) rfl ?_
      replace h := h _ rfl
      refine ex_iinc (ls2 := [_, _, _, _]) (pc := 29) d_Md_crash_29 rfl rfl ?_
      replace h := h _ rfl
      refine ex_goto (tgt := 4) (pc := 32) d_Md_crash_32 (by decide) ?_
      exact h
    · replace h := h.2 g
      refine ex_iconst (w := 1) (pc := 22) d_Md_crash_22 (by decide) ?_
      refine ex_goto (tgt := 27) (pc := 23) d_Md_crash_23 (by decide) ?_
      refine ex_iadd (pc := 27) d_Md_crash_27 ?_
      refine ex_istore_n (ls2 := [_, _, _, _]) (pc := 28) d_Md_crash_28 (Nat.le_of_ble_eq_true rfl) rfl ?_
      replace h := h _ rfl
      refine ex_iinc (ls2 := [_, _, _, _]) (pc := 29) d_Md_crash_29 rfl rfl ?_
      replace h := h _ rfl
      refine ex_goto (tgt := 4) (pc := 32) d_Md_crash_32 (by decide) ?_
      exact h
theorem sg_Md_reachable_0 {h0 : Nat} {v1 : Int32} {M : me_M} {Q : Option me_V → me_M → Prop} (h : EX eL X_Md_reachable 4 [some (.inr (some h0)), some (.inl v1), some (.inl 0), some (.inl 0), none] [] M Q) : EX eL X_Md_reachable 0 [some (.inr (some h0)), some (.inl v1), none, none, none] [] M Q := by
  refine ex_iconst (w := 0) (pc := 0) d_Md_reachable_0 (by decide) ?_
  refine ex_istore_n (ls2 := [_, _, _, _, _]) (pc := 1) d_Md_reachable_1 (Nat.le_of_ble_eq_true rfl) rfl ?_
  refine ex_iconst (w := 0) (pc := 2) d_Md_reachable_2 (by decide) ?_
  refine ex_istore_n (ls2 := [_, _, _, _, _]) (pc := 3) d_Md_reachable_3 (Nat.le_of_ble_eq_true rfl) rfl ?_
  exact h
theorem sg_Md_reachable_4 {h0 : Nat} {v1 : Int32} {v2 : Int32} {v3 : Int32} {M : me_M} {Q : Option me_V → me_M → Prop} (h : mKd M h0 = 11 ∧ (((mI M 1642 h0 0) ≤ v3) → EX eL X_Md_reachable 45 [some (.inr (some h0)), some (.inl v1), some (.inl v2), some (.inl 0), none] [] M Q) ∧ ((¬ (mI M 1642 h0 0) ≤ v3) → ∃ q2, (mR M 1646 h0 0) = some q2 ∧ mKd M q2 = 100 ∧ vp_in ((30 * v1) + v3) (mLn M q2) ∧ ((¬ (mI M 100 q2 ((30 * v1) + v3).toNatClampNeg) = 3) → ∀ x6, x6 = v3 + Int32.ofInt 1 → EX eL X_Md_reachable 4 [some (.inr (some h0)), some (.inl v1), some (.inl v2), some (.inl x6), none] [] M Q) ∧ (((mI M 100 q2 ((30 * v1) + v3).toNatClampNeg) = 3) → ∀ x7, x7 = (v2 ||| (1 <<< (v3 &&& 31))) → ∀ x8, x8 = v3 + Int32.ofInt 1 → EX eL X_Md_reachable 4 [some (.inr (some h0)), some (.inl v1), some (.inl x7), some (.inl x8), none] [] M Q))) : EX eL X_Md_reachable 4 [some (.inr (some h0)), some (.inl v1), some (.inl v2), some (.inl v3), none] [] M Q := by
  refine ex_iload_n (pc := 4) d_Md_reachable_4 rfl ?_
  refine ex_aload_n (pc := 5) d_Md_reachable_5 rfl ?_
  obtain ⟨k1, h⟩ := h
  refine ex_getI (pc := 6) d_Md_reachable_6 rfl rfl (by decide) k1 ?_
  refine ex_icmp_ge (tgt := 43) (pc := 9) d_Md_reachable_9 (by decide) (fun g => ?_) (fun g => ?_)
  · replace h := h.1 g
    refine ex_iconst (w := 0) (pc := 43) d_Md_reachable_43 (by decide) ?_
    refine ex_istore_n (ls2 := [_, _, _, _, _]) (pc := 44) d_Md_reachable_44 (Nat.le_of_ble_eq_true rfl) rfl ?_
    exact h
  · replace h := h.2 g
    refine ex_aload_n (pc := 12) d_Md_reachable_12 rfl ?_
    refine ex_getR (pc := 13) d_Md_reachable_13 rfl rfl k1 ?_
    refine ex_bipush (w := 30) (pc := 16) d_Md_reachable_16 (by decide) ?_
    refine ex_iload_n (pc := 18) d_Md_reachable_18 rfl ?_
    refine ex_imul (pc := 19) d_Md_reachable_19 ?_
    refine ex_iload_n (pc := 20) d_Md_reachable_20 rfl ?_
    refine ex_iadd (pc := 21) d_Md_reachable_21 ?_
    obtain ⟨q2, e3, h⟩ := h
    obtain ⟨k4, h⟩ := h
    obtain ⟨b5, h⟩ := h
    refine ex_iald (pc := 22) d_Md_reachable_22 e3 k4 b5 ?_
    refine ex_iconst (w := 3) (pc := 23) d_Md_reachable_23 (by decide) ?_
    refine ex_icmp_ne (tgt := 35) (pc := 24) d_Md_reachable_24 (by decide) (fun g => ?_) (fun g => ?_)
    · replace h := h.1 g
      refine ex_iload_n (pc := 35) d_Md_reachable_35 rfl ?_
      refine ex_istore_n (ls2 := [_, _, _, _, _]) (pc := 36) d_Md_reachable_36 (Nat.le_of_ble_eq_true rfl) rfl ?_
      refine ex_iinc (ls2 := [_, _, _, _, _]) (pc := 37) d_Md_reachable_37 rfl rfl ?_
      replace h := h _ rfl
      refine ex_goto (tgt := 4) (pc := 40) d_Md_reachable_40 (by decide) ?_
      exact h
    · replace h := h.2 g
      refine ex_iload_n (pc := 27) d_Md_reachable_27 rfl ?_
      refine ex_iconst (w := 1) (pc := 28) d_Md_reachable_28 (by decide) ?_
      refine ex_iload_n (pc := 29) d_Md_reachable_29 rfl ?_
      refine ex_ishl (pc := 30) d_Md_reachable_30 ?_
      refine ex_ior (pc := 31) d_Md_reachable_31 ?_
      refine ex_goto (tgt := 36) (pc := 32) d_Md_reachable_32 (by decide) ?_
      refine ex_istore_n (ls2 := [_, _, _, _, _]) (pc := 36) d_Md_reachable_36 (Nat.le_of_ble_eq_true rfl) rfl ?_
      replace h := h _ rfl
      refine ex_iinc (ls2 := [_, _, _, _, _]) (pc := 37) d_Md_reachable_37 rfl rfl ?_
      replace h := h _ rfl
      refine ex_goto (tgt := 4) (pc := 40) d_Md_reachable_40 (by decide) ?_
      exact h
theorem sg_Md_reachable_45 {h0 : Nat} {v1 : Int32} {v2 : Int32} {v3 : Int32} {M : me_M} {Q : Option me_V → me_M → Prop} (h : mKd M h0 = 11 ∧ (((mI M 1642 h0 0) ≤ v3) → EX eL X_Md_reachable 97 [some (.inr (some h0)), none, none, some (.inl 0), none] [] M Q) ∧ ((¬ (mI M 1642 h0 0) ≤ v3) → ((¬ ((v2 >>> (v3 &&& 31)) &&& 1) = 1) → ∃ q2, (mR M 1669 h0 0) = some q2 ∧ mKd M q2 = 100 ∧ vp_in v3 (mLn M q2) ∧ ∀ M6, M6 = mSetI M 100 q2 v3.toNatClampNeg 0 → ∀ x7, x7 = v3 + Int32.ofInt 1 → EX eL X_Md_reachable 45 [some (.inr (some h0)), some (.inl v1), some (.inl v2), some (.inl x7), none] [] M6 Q) ∧ ((((v2 >>> (v3 &&& 31)) &&& 1) = 1) → ∃ q8, (mR M 1650 h0 0) = some q8 ∧ mKd M q8 = 100 ∧ vp_in ((30 * v1) + v3) (mLn M q8) ∧ ∃ q12, (mR M 1669 h0 0) = some q12 ∧ mKd M q12 = 100 ∧ vp_in v3 (mLn M q12) ∧ ∀ M16, M16 = mSetI M 100 q12 v3.toNatClampNeg (((mI M 100 q8 ((30 * v1) + v3).toNatClampNeg) &&& v2) ||| (1 <<< (v3 &&& 31))) → ∀ x17, x17 = v3 + Int32.ofInt 1 → EX eL X_Md_reachable 45 [some (.inr (some h0)), some (.inl v1), some (.inl v2), some (.inl x17), none] [] M16 Q))) : EX eL X_Md_reachable 45 [some (.inr (some h0)), some (.inl v1), some (.inl v2), some (.inl v3), none] [] M Q := by
  refine ex_iload_n (pc := 45) d_Md_reachable_45 rfl ?_
  refine ex_aload_n (pc := 46) d_Md_reachable_46 rfl ?_
  obtain ⟨k1, h⟩ := h
  refine ex_getI (pc := 47) d_Md_reachable_47 rfl rfl (by decide) k1 ?_
  refine ex_icmp_ge (tgt := 95) (pc := 50) d_Md_reachable_50 (by decide) (fun g => ?_) (fun g => ?_)
  · replace h := h.1 g
    refine ex_iconst (w := 0) (pc := 95) d_Md_reachable_95 (by decide) ?_
    refine ex_istore_n (ls2 := [_, _, _, _, _]) (pc := 96) d_Md_reachable_96 (Nat.le_of_ble_eq_true rfl) rfl ?_
    refine ex_drop (k := 1) (ls2 := [_, _, _, _, _]) rfl ?_
    refine ex_drop (k := 2) (ls2 := [_, _, _, _, _]) rfl ?_
    exact h
  · replace h := h.2 g
    refine ex_aload_n (pc := 53) d_Md_reachable_53 rfl ?_
    refine ex_getR (pc := 54) d_Md_reachable_54 rfl rfl k1 ?_
    refine ex_iload_n (pc := 57) d_Md_reachable_57 rfl ?_
    refine ex_iload_n (pc := 58) d_Md_reachable_58 rfl ?_
    refine ex_iload_n (pc := 59) d_Md_reachable_59 rfl ?_
    refine ex_ishr (pc := 60) d_Md_reachable_60 ?_
    refine ex_iconst (w := 1) (pc := 61) d_Md_reachable_61 (by decide) ?_
    refine ex_iand (pc := 62) d_Md_reachable_62 ?_
    refine ex_iconst (w := 1) (pc := 63) d_Md_reachable_63 (by decide) ?_
    refine ex_icmp_ne (tgt := 87) (pc := 64) d_Md_reachable_64 (by decide) (fun g => ?_) (fun g => ?_)
    · replace h := h.1 g
      refine ex_iconst (w := 0) (pc := 87) d_Md_reachable_87 (by decide) ?_
      obtain ⟨q2, e3, h⟩ := h
      obtain ⟨k4, h⟩ := h
      obtain ⟨b5, h⟩ := h
      refine ex_iast (pc := 88) d_Md_reachable_88 e3 k4 b5 ?_
      replace h := h _ rfl
      refine ex_iinc (ls2 := [_, _, _, _, _]) (pc := 89) d_Md_reachable_89 rfl rfl ?_
      replace h := h _ rfl
      refine ex_goto (tgt := 45) (pc := 92) d_Md_reachable_92 (by decide) ?_
      exact h
    · replace h := h.2 g
      refine ex_aload_n (pc := 67) d_Md_reachable_67 rfl ?_
      refine ex_getR (pc := 68) d_Md_reachable_68 rfl rfl k1 ?_
      refine ex_bipush (w := 30) (pc := 71) d_Md_reachable_71 (by decide) ?_
      refine ex_iload_n (pc := 73) d_Md_reachable_73 rfl ?_
      refine ex_imul (pc := 74) d_Md_reachable_74 ?_
      refine ex_iload_n (pc := 75) d_Md_reachable_75 rfl ?_
      refine ex_iadd (pc := 76) d_Md_reachable_76 ?_
      obtain ⟨q8, e9, h⟩ := h
      obtain ⟨k10, h⟩ := h
      obtain ⟨b11, h⟩ := h
      refine ex_iald (pc := 77) d_Md_reachable_77 e9 k10 b11 ?_
      refine ex_iload_n (pc := 78) d_Md_reachable_78 rfl ?_
      refine ex_iand (pc := 79) d_Md_reachable_79 ?_
      refine ex_iconst (w := 1) (pc := 80) d_Md_reachable_80 (by decide) ?_
      refine ex_iload_n (pc := 81) d_Md_reachable_81 rfl ?_
      refine ex_ishl (pc := 82) d_Md_reachable_82 ?_
      refine ex_ior (pc := 83) d_Md_reachable_83 ?_
      refine ex_goto (tgt := 88) (pc := 84) d_Md_reachable_84 (by decide) ?_
      obtain ⟨q12, e13, h⟩ := h
      obtain ⟨k14, h⟩ := h
      obtain ⟨b15, h⟩ := h
      refine ex_iast (pc := 88) d_Md_reachable_88 e13 k14 b15 ?_
      replace h := h _ rfl
      refine ex_iinc (ls2 := [_, _, _, _, _]) (pc := 89) d_Md_reachable_89 rfl rfl ?_
      replace h := h _ rfl
      refine ex_goto (tgt := 45) (pc := 92) d_Md_reachable_92 (by decide) ?_
      exact h
theorem sg_Md_reachable_97 {h0 : Nat} {v3 : Int32} {M : me_M} {Q : Option me_V → me_M → Prop} (h : mKd M h0 = 11 ∧ (((mI M 1642 h0 0) ≤ v3) → Q none M) ∧ ((¬ (mI M 1642 h0 0) ≤ v3) → EX eL X_Md_reachable 108 [some (.inr (some h0)), none, none, some (.inl v3), some (.inl 0)] [] M Q)) : EX eL X_Md_reachable 97 [some (.inr (some h0)), none, none, some (.inl v3), none] [] M Q := by
  refine ex_iload_n (pc := 97) d_Md_reachable_97 rfl ?_
  refine ex_aload_n (pc := 98) d_Md_reachable_98 rfl ?_
  obtain ⟨k1, h⟩ := h
  refine ex_getI (pc := 99) d_Md_reachable_99 rfl rfl (by decide) k1 ?_
  refine ex_icmp_ge (tgt := 165) (pc := 102) d_Md_reachable_102 (by decide) (fun g => ?_) (fun g => ?_)
  · replace h := h.1 g
    exact ex_ret_v (pc := 165) d_Md_reachable_165 rfl h
  · replace h := h.2 g
    refine ex_iconst (w := 0) (pc := 105) d_Md_reachable_105 (by decide) ?_
    refine ex_istore (ls2 := [_, _, _, _, _]) (pc := 106) d_Md_reachable_106 (Nat.le_of_ble_eq_true rfl) rfl ?_
    exact h
theorem sg_Md_reachable_108 {h0 : Nat} {v3 : Int32} {v4 : Int32} {M : me_M} {Q : Option me_V → me_M → Prop} (h : mKd M h0 = 11 ∧ (((mI M 1642 h0 0) ≤ v4) → ∀ x2, x2 = v3 + Int32.ofInt 1 → EX eL X_Md_reachable 97 [some (.inr (some h0)), none, none, some (.inl x2), none] [] M Q) ∧ ((¬ (mI M 1642 h0 0) ≤ v4) → ∃ q3, (mR M 1669 h0 0) = some q3 ∧ mKd M q3 = 100 ∧ vp_in v4 (mLn M q3) ∧ ((¬ (((mI M 100 q3 v4.toNatClampNeg) >>> (v3 &&& 31)) &&& 1) = 1) → ∀ x7, x7 = v4 + Int32.ofInt 1 → EX eL X_Md_reachable 108 [some (.inr (some h0)), none, none, some (.inl v3), some (.inl x7)] [] M Q) ∧ (((((mI M 100 q3 v4.toNatClampNeg) >>> (v3 &&& 31)) &&& 1) = 1) → vp_in v4 (mLn M q3) ∧ vp_in v3 (mLn M q3) ∧ vp_in v4 (mLn M q3) ∧ ∀ M11, M11 = mSetI M 100 q3 v4.toNatClampNeg ((mI M 100 q3 v4.toNatClampNeg) ||| (mI M 100 q3 v3.toNatClampNeg)) → ∀ x12, x12 = v4 + Int32.ofInt 1 → EX eL X_Md_reachable 108 [some (.inr (some h0)), none, none, some (.inl v3), some (.inl x12)] [] M11 Q))) : EX eL X_Md_reachable 108 [some (.inr (some h0)), none, none, some (.inl v3), some (.inl v4)] [] M Q := by
  refine ex_iload (pc := 108) d_Md_reachable_108 rfl ?_
  refine ex_aload_n (pc := 110) d_Md_reachable_110 rfl ?_
  obtain ⟨k1, h⟩ := h
  refine ex_getI (pc := 111) d_Md_reachable_111 rfl rfl (by decide) k1 ?_
  refine ex_icmp_ge (tgt := 159) (pc := 114) d_Md_reachable_114 (by decide) (fun g => ?_) (fun g => ?_)
  · replace h := h.1 g
    refine ex_iinc (ls2 := [_, _, _, _, _]) (pc := 159) d_Md_reachable_159 rfl rfl ?_
    replace h := h _ rfl
    refine ex_goto (tgt := 97) (pc := 162) d_Md_reachable_162 (by decide) ?_
    refine ex_drop (k := 4) (ls2 := [_, _, _, _, _]) rfl ?_
    exact h
  · replace h := h.2 g
    refine ex_aload_n (pc := 117) d_Md_reachable_117 rfl ?_
    refine ex_getR (pc := 118) d_Md_reachable_118 rfl rfl k1 ?_
    refine ex_iload (pc := 121) d_Md_reachable_121 rfl ?_
    obtain ⟨q3, e4, h⟩ := h
    obtain ⟨k5, h⟩ := h
    obtain ⟨b6, h⟩ := h
    refine ex_iald (pc := 123) d_Md_reachable_123 e4 k5 b6 ?_
    refine ex_iload_n (pc := 124) d_Md_reachable_124 rfl ?_
    refine ex_ishr (pc := 125) d_Md_reachable_125 ?_
    refine ex_iconst (w := 1) (pc := 126) d_Md_reachable_126 (by decide) ?_
    refine ex_iand (pc := 127) d_Md_reachable_127 ?_
    refine ex_iconst (w := 1) (pc := 128) d_Md_reachable_128 (by decide) ?_
    refine ex_icmp_ne (tgt := 153) (pc := 129) d_Md_reachable_129 (by decide) (fun g => ?_) (fun g => ?_)
    · replace h := h.1 g
      refine ex_iinc (ls2 := [_, _, _, _, _]) (pc := 153) d_Md_reachable_153 rfl rfl ?_
      replace h := h _ rfl
      refine ex_goto (tgt := 108) (pc := 156) d_Md_reachable_156 (by decide) ?_
      exact h
    · replace h := h.2 g
      refine ex_aload_n (pc := 132) d_Md_reachable_132 rfl ?_
      refine ex_getR (pc := 133) d_Md_reachable_133 rfl rfl k1 ?_
      refine ex_iload (pc := 136) d_Md_reachable_136 rfl ?_
      refine ex_aload_n (pc := 138) d_Md_reachable_138 rfl ?_
      refine ex_getR (pc := 139) d_Md_reachable_139 rfl rfl k1 ?_
      refine ex_iload (pc := 142) d_Md_reachable_142 rfl ?_
      obtain ⟨b8, h⟩ := h
      refine ex_iald (pc := 144) d_Md_reachable_144 e4 k5 b8 ?_
      refine ex_aload_n (pc := 145) d_Md_reachable_145 rfl ?_
      refine ex_getR (pc := 146) d_Md_reachable_146 rfl rfl k1 ?_
      refine ex_iload_n (pc := 149) d_Md_reachable_149 rfl ?_
      obtain ⟨b9, h⟩ := h
      refine ex_iald (pc := 150) d_Md_reachable_150 e4 k5 b9 ?_
      refine ex_ior (pc := 151) d_Md_reachable_151 ?_
      obtain ⟨b10, h⟩ := h
      refine ex_iast (pc := 152) d_Md_reachable_152 e4 k5 b10 ?_
      replace h := h _ rfl
      refine ex_iinc (ls2 := [_, _, _, _, _]) (pc := 153) d_Md_reachable_153 rfl rfl ?_
      replace h := h _ rfl
      refine ex_goto (tgt := 108) (pc := 156) d_Md_reachable_156 (by decide) ?_
      exact h
