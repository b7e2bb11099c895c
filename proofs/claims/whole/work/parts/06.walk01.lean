theorem sg_At_countOrder_0 {h0 : Nat} {a1 : Option Nat} {M : me_M} {Q : Option me_V → me_M → Prop} (h : mKd M h0 = 6 ∧ (((mI M 1324 h0 0) = 0) → ∀ M2, M2 = mSetI M 1325 h0 0 1 → ((¬ (mI M2 1324 h0 0) = 0) → ∃ q3, a1 = some q3 ∧ mKd M2 q3 = 8 ∧ ∀ M6, M6 = mSetI M2 1326 h0 0 (me_max (mI M2 1326 h0 0) (mI M2 1449 q3 0)) → ((¬ (mI M6 1324 h0 0) = 0) → ∀ M7, M7 = mSetI M6 1327 h0 0 ((mI M6 1327 h0 0) ||| (mI M6 1450 q3 0)) → ∀ M8, M8 = mSetI M7 1324 h0 0 ((mI M7 1324 h0 0) + 1) → Q none M8) ∧ (((mI M6 1324 h0 0) = 0) → ∀ M9, M9 = mSetI M6 1327 h0 0 (mI M6 1450 q3 0) → ∀ M10, M10 = mSetI M9 1324 h0 0 ((mI M9 1324 h0 0) + 1) → Q none M10)) ∧ (((mI M2 1324 h0 0) = 0) → ∃ q11, a1 = some q11 ∧ mKd M2 q11 = 8 ∧ ∀ M14, M14 = mSetI M2 1326 h0 0 (mI M2 1449 q11 0) → ((¬ (mI M14 1324 h0 0) = 0) → ∀ M15, M15 = mSetI M14 1327 h0 0 ((mI M14 1327 h0 0) ||| (mI M14 1450 q11 0)) → ∀ M16, M16 = mSetI M15 1324 h0 0 ((mI M15 1324 h0 0) + 1) → Q none M16) ∧ (((mI M14 1324 h0 0) = 0) → ∀ M17, M17 = mSetI M14 1327 h0 0 (mI M14 1450 q11 0) → ∀ M18, M18 = mSetI M17 1324 h0 0 ((mI M17 1324 h0 0) + 1) → Q none M18))) ∧ ((¬ (mI M 1324 h0 0) = 0) → (((mI M 1325 h0 0) = 0) → ∀ M19, M19 = mSetI M 1325 h0 0 0 → ((¬ (mI M19 1324 h0 0) = 0) → ∃ q20, a1 = some q20 ∧ mKd M19 q20 = 8 ∧ ∀ M23, M23 = mSetI M19 1326 h0 0 (me_max (mI M19 1326 h0 0) (mI M19 1449 q20 0)) → ((¬ (mI M23 1324 h0 0) = 0) → ∀ M24, M24 = mSetI M23 1327 h0 0 ((mI M23 1327 h0 0) ||| (mI M23 1450 q20 0)) → ∀ M25, M25 = mSetI M24 1324 h0 0 ((mI M24 1324 h0 0) + 1) → Q none M25) ∧ (((mI M23 1324 h0 0) = 0) → ∀ M26, M26 = mSetI M23 1327 h0 0 (mI M23 1450 q20 0) → ∀ M27, M27 = mSetI M26 1324 h0 0 ((mI M26 1324 h0 0) + 1) → Q none M27)) ∧ (((mI M19 1324 h0 0) = 0) → ∃ q28, a1 = some q28 ∧ mKd M19 q28 = 8 ∧ ∀ M31, M31 = mSetI M19 1326 h0 0 (mI M19 1449 q28 0) → ((¬ (mI M31 1324 h0 0) = 0) → ∀ M32, M32 = mSetI M31 1327 h0 0 ((mI M31 1327 h0 0) ||| (mI M31 1450 q28 0)) → ∀ M33, M33 = mSetI M32 1324 h0 0 ((mI M32 1324 h0 0) + 1) → Q none M33) ∧ (((mI M31 1324 h0 0) = 0) → ∀ M34, M34 = mSetI M31 1327 h0 0 (mI M31 1450 q28 0) → ∀ M35, M35 = mSetI M34 1324 h0 0 ((mI M34 1324 h0 0) + 1) → Q none M35))) ∧ ((¬ (mI M 1325 h0 0) = 0) → ∃ q36, a1 = some q36 ∧ mKd M q36 = 8 ∧ ((¬ (mI M 1449 q36 0) = (mI M 1326 h0 0)) → ∀ M39, M39 = mSetI M 1325 h0 0 0 → ((¬ (mI M39 1324 h0 0) = 0) → ∀ M40, M40 = mSetI M39 1326 h0 0 (me_max (mI M39 1326 h0 0) (mI M39 1449 q36 0)) → ((¬ (mI M40 1324 h0 0) = 0) → ∀ M41, M41 = mSetI M40 1327 h0 0 ((mI M40 1327 h0 0) ||| (mI M40 1450 q36 0)) → ∀ M42, M42 = mSetI M41 1324 h0 0 ((mI M41 1324 h0 0) + 1) → Q none M42) ∧ (((mI M40 1324 h0 0) = 0) → ∀ M43, M43 = mSetI M40 1327 h0 0 (mI M40 1450 q36 0) → ∀ M44, M44 = mSetI M43 1324 h0 0 ((mI M43 1324 h0 0) + 1) → Q none M44)) ∧ (((mI M39 1324 h0 0) = 0) → ∀ M45, M45 = mSetI M39 1326 h0 0 (mI M39 1449 q36 0) → ((¬ (mI M45 1324 h0 0) = 0) → ∀ M46, M46 = mSetI M45 1327 h0 0 ((mI M45 1327 h0 0) ||| (mI M45 1450 q36 0)) → ∀ M47, M47 = mSetI M46 1324 h0 0 ((mI M46 1324 h0 0) + 1) → Q none M47) ∧ (((mI M45 1324 h0 0) = 0) → ∀ M48, M48 = mSetI M45 1327 h0 0 (mI M45 1450 q36 0) → ∀ M49, M49 = mSetI M48 1324 h0 0 ((mI M48 1324 h0 0) + 1) → Q none M49))) ∧ (((mI M 1449 q36 0) = (mI M 1326 h0 0)) → ((¬ (mI M 1450 q36 0) = (mI M 1327 h0 0)) → ∀ M50, M50 = mSetI M 1325 h0 0 0 → ((¬ (mI M50 1324 h0 0) = 0) → ∀ M51, M51 = mSetI M50 1326 h0 0 (me_max (mI M50 1326 h0 0) (mI M50 1449 q36 0)) → ((¬ (mI M51 1324 h0 0) = 0) → ∀ M52, M52 = mSetI M51 1327 h0 0 ((mI M51 1327 h0 0) ||| (mI M51 1450 q36 0)) → ∀ M53, M53 = mSetI M52 1324 h0 0 ((mI M52 1324 h0 0) + 1) → Q none M53) ∧ (((mI M51 1324 h0 0) = 0) → ∀ M54, M54 = mSetI M51 1327 h0 0 (mI M51 1450 q36 0) → ∀ M55, M55 = mSetI M54 1324 h0 0 ((mI M54 1324 h0 0) + 1) → Q none M55)) ∧ (((mI M50 1324 h0 0) = 0) → ∀ M56, M56 = mSetI M50 1326 h0 0 (mI M50 1449 q36 0) → ((¬ (mI M56 1324 h0 0) = 0) → ∀ M57, M57 = mSetI M56 1327 h0 0 ((mI M56 1327 h0 0) ||| (mI M56 1450 q36 0)) → ∀ M58, M58 = mSetI M57 1324 h0 0 ((mI M57 1324 h0 0) + 1) → Q none M58) ∧ (((mI M56 1324 h0 0) = 0) → ∀ M59, M59 = mSetI M56 1327 h0 0 (mI M56 1450 q36 0) → ∀ M60, M60 = mSetI M59 1324 h0 0 ((mI M59 1324 h0 0) + 1) → Q none M60))) ∧ (((mI M 1450 q36 0) = (mI M 1327 h0 0)) → ∀ M61, M61 = mSetI M 1325 h0 0 1 → ((¬ (mI M61 1324 h0 0) = 0) → ∀ M62, M62 = mSetI M61 1326 h0 0 (me_max (mI M61 1326 h0 0) (mI M61 1449 q36 0)) → ((¬ (mI M62 1324 h0 0) = 0) → ∀ M63, M63 = mSetI M62 1327 h0 0 ((mI M62 1327 h0 0) ||| (mI M62 1450 q36 0)) → ∀ M64, M64 = mSetI M63 1324 h0 0 ((mI M63 1324 h0 0) + 1) → Q none M64) ∧ (((mI M62 1324 h0 0) = 0) → ∀ M65, M65 = mSetI M62 1327 h0 0 (mI M62 1450 q36 0) → ∀ M66, M66 = mSetI M65 1324 h0 0 ((mI M65 1324 h0 0) + 1) → Q none M66)) ∧ (((mI M61 1324 h0 0) = 0) → ∀ M67, M67 = mSetI M61 1326 h0 0 (mI M61 1449 q36 0) → ((¬ (mI M67 1324 h0 0) = 0) → ∀ M68, M68 = mSetI M67 1327 h0 0 ((mI M67 1327 h0 0) ||| (mI M67 1450 q36 0)) → ∀ M69, M69 = mSetI M68 1324 h0 0 ((mI M68 1324 h0 0) + 1) → Q none M69) ∧ (((mI M67 1324 h0 0) = 0) → ∀ M70, M70 = mSetI M67 1327 h0 0 (mI M67 1450 q36 0) → ∀ M71, M71 = mSetI M70 1324 h0 0 ((mI M70 1324 h0 0) + 1) → Q none M71))))))) : EX eL X_At_countOrder 0 [some (.inr (some h0)), some (.inr a1)] [] M Q := by
  refine ex_aload_n (pc := 0) d_At_countOrder_0 rfl ?_
  refine ex_aload_n (pc := 1) d_At_countOrder_1 rfl ?_
  obtain ⟨k1, h⟩ := h
  refine ex_getI (pc := 2) d_At_countOrder_2 rfl rfl (by decide) k1 ?_
  refine ex_if_eq (tgt := 37) (pc := 5) d_At_countOrder_5 (by decide) (fun g => ?_) (fun g => ?_)
  · replace h := h.1 g
    refine ex_iconst (w := 1) (pc := 37) d_At_countOrder_37 (by decide) ?_
    refine ex_goto (tgt := 42) (pc := 38) d_At_countOrder_38 (by decide) ?_
    refine ex_putZ (pc := 42) d_At_countOrder_42 rfl rfl k1 (Or.inr rfl) ?_
    replace h := h _ rfl
    refine ex_aload_n (pc := 45) d_At_countOrder_45 rfl ?_
    refine ex_aload_n (pc := 46) d_At_countOrder_46 rfl ?_
    refine ex_getI (pc := 47) d_At_countOrder_47 rfl rfl (by decide) k1 ?_
    refine ex_if_ne (tgt := 60) (pc := 50) d_At_countOrder_50 (by decide) (fun g => ?_) (fun g => ?_)
    · replace h := h.1 g
      refine ex_aload_n (pc := 60) d_At_countOrder_60 rfl ?_
      refine ex_getI (pc := 61) d_At_countOrder_61 rfl rfl (by decide) k1 ?_
      refine ex_aload_n (pc := 64) d_At_countOrder_64 rfl ?_
      obtain ⟨q3, e4, h⟩ := h
      obtain ⟨k5, h⟩ := h
      refine ex_getI (pc := 65) d_At_countOrder_65 e4 rfl (by decide) k5 ?_
      refine ex_max (pc := 68) rfl (Nat.le_of_ble_eq_true rfl) ?_
      refine ex_putI (pc := 71) d_At_countOrder_71 rfl rfl k1 ?_
      replace h := h _ rfl
      refine ex_aload_n (pc := 74) d_At_countOrder_74 rfl ?_
      refine ex_aload_n (pc := 75) d_At_countOrder_75 rfl ?_
      refine ex_getI (pc := 76) d_At_countOrder_76 rfl rfl (by decide) k1 ?_
      refine ex_if_ne (tgt := 89) (pc := 79) d_At_countOrder_79 (by decide) (fun g => ?_) (fun g => ?_)
      · replace h := h.1 g
        refine ex_aload_n (pc := 89) d_At_countOrder_89 rfl ?_
        refine ex_getI (pc := 90) d_At_countOrder_90 rfl rfl (by decide) k1 ?_
        refine ex_aload_n (pc := 93) d_At_countOrder_93 rfl ?_
        refine ex_getI (pc := 94) d_At_countOrder_94 e4 rfl (by decide) k5 ?_
        refine ex_ior (pc := 97) d_At_countOrder_97 ?_
        refine ex_putI (pc := 98) d_At_countOrder_98 rfl rfl k1 ?_
        replace h := h _ rfl
        refine ex_aload_n (pc := 101) d_At_countOrder_101 rfl ?_
        refine ex_dup (pc := 102) d_At_countOrder_102 ?_
        refine ex_getI (pc := 103) d_At_countOrder_103 rfl rfl (by decide) k1 ?_
        refine ex_iconst (w := 1) (pc := 106) d_At_countOrder_106 (by decide) ?_
        refine ex_iadd (pc := 107) d_At_countOrder_107 ?_
        refine ex_putI (pc := 108) d_At_countOrder_108 rfl rfl k1 ?_
        replace h := h _ rfl
        exact ex_ret_v (pc := 111) d_At_countOrder_111 rfl h
      · replace h := h.2 g
        refine ex_aload_n (pc := 82) d_At_countOrder_82 rfl ?_
        refine ex_getI (pc := 83) d_At_countOrder_83 e4 rfl (by decide) k5 ?_
        refine ex_goto (tgt := 98) (pc := 86) d_At_countOrder_86 (by decide) ?_
        refine ex_putI (pc := 98) d_At_countOrder_98 rfl rfl k1 ?_
        replace h := h _ rfl
        refine ex_aload_n (pc := 101) d_At_countOrder_101 rfl ?_
        refine ex_dup (pc := 102) d_At_countOrder_102 ?_
        refine ex_getI (pc := 103) d_At_countOrder_103 rfl rfl (by decide) k1 ?_
        refine ex_iconst (w := 1) (pc := 106) d_At_countOrder_106 (by decide) ?_
        refine ex_iadd (pc := 107) d_At_countOrder_107 ?_
        refine ex_putI (pc := 108) d_At_countOrder_108 rfl rfl k1 ?_
        replace h := h _ rfl
        exact ex_ret_v (pc := 111) d_At_countOrder_111 rfl h
    · replace h := h.2 g
      refine ex_aload_n (pc := 53) d_At_countOrder_53 rfl ?_
      obtain ⟨q11, e12, h⟩ := h
      obtain ⟨k13, h⟩ := h
      refine ex_getI (pc := 54) d_At_countOrder_54 e12 rfl (by decide) k13 ?_
      refine ex_goto (tgt := 71) (pc := 57) d_At_countOrder_57 (by decide) ?_
      refine ex_putI (pc := 71) d_At_countOrder_71 rfl rfl k1 ?_
      replace h := h _ rfl
      refine ex_aload_n (pc := 74) d_At_countOrder_74 rfl ?_
      refine ex_aload_n (pc := 75) d_At_countOrder_75 rfl ?_
      refine ex_getI (pc := 76) d_At_countOrder_76 rfl rfl (by decide) k1 ?_
      refine ex_if_ne (tgt := 89) (pc := 79) d_At_countOrder_79 (by decide) (fun g => ?_) (fun g => ?_)
      · replace h := h.1 g
        refine ex_aload_n (pc := 89) d_At_countOrder_89 rfl ?_
        refine ex_getI (pc := 90) d_At_countOrder_90 rfl rfl (by decide) k1 ?_
        refine ex_aload_n (pc := 93) d_At_countOrder_93 rfl ?_
        refine ex_getI (pc := 94) d_At_countOrder_94 e12 rfl (by decide) k13 ?_
        refine ex_ior (pc := 97) d_At_countOrder_97 ?_
        refine ex_putI (pc := 98) d_At_countOrder_98 rfl rfl k1 ?_
        replace h := h _ rfl
        refine ex_aload_n (pc := 101) d_At_countOrder_101 rfl ?_
        refine ex_dup (pc := 102) d_At_countOrder_102 ?_
        refine ex_getI (pc := 103) d_At_countOrder_103 rfl rfl (by decide) k1 ?_
        refine ex_iconst (w := 1) (pc := 106) d_At_countOrder_106 (by decide) ?_
        refine ex_iadd (pc := 107) d_At_countOrder_107 ?_
        refine ex_putI (pc := 108) d_At_countOrder_108 rfl rfl k1 ?_
        replace h := h _ rfl
        exact ex_ret_v (pc := 111) d_At_countOrder_111 rfl h
      · replace h := h.2 g
        refine ex_aload_n (pc := 82) d_At_countOrder_82 rfl ?_
        refine ex_getI (pc := 83) d_At_countOrder_83 e12 rfl (by decide) k13 ?_
        refine ex_goto (tgt := 98) (pc := 86) d_At_countOrder_86 (by decide) ?_
        refine ex_putI (pc := 98) d_At_countOrder_98 rfl rfl k1 ?_
        replace h := h _ rfl
        refine ex_aload_n (pc := 101) d_At_countOrder_101 rfl ?_
        refine ex_dup (pc := 102) d_At_countOrder_102 ?_
        refine ex_getI (pc := 103) d_At_countOrder_103 rfl rfl (by decide) k1 ?_
        refine ex_iconst (w := 1) (pc := 106) d_At_countOrder_106 (by decide) ?_
        refine ex_iadd (pc := 107) d_At_countOrder_107 ?_
        refine ex_putI (pc := 108) d_At_countOrder_108 rfl rfl k1 ?_
        replace h := h _ rfl
        exact ex_ret_v (pc := 111) d_At_countOrder_111 rfl h
  · replace h := h.2 g
    refine ex_aload_n (pc := 8) d_At_countOrder_8 rfl ?_
    refine ex_getI (pc := 9) d_At_countOrder_9 rfl rfl (by decide) k1 ?_
    refine ex_if_eq (tgt := 41) (pc := 12) d_At_countOrder_12 (by decide) (fun g => ?_) (fun g => ?_)
    · replace h := h.1 g
      refine ex_iconst (w := 0) (pc := 41) d_At_countOrder_41 (by decide) ?_
      refine ex_putZ (pc := 42) d_At_countOrder_42 rfl rfl k1 (Or.inl rfl) ?_
      replace h := h _ rfl
      refine ex_aload_n (pc := 45) d_At_countOrder_45 rfl ?_
      refine ex_aload_n (pc := 46) d_At_countOrder_46 rfl ?_
      refine ex_getI (pc := 47) d_At_countOrder_47 rfl rfl (by decide) k1 ?_
      refine ex_if_ne (tgt := 60) (pc := 50) d_At_countOrder_50 (by decide) (fun g => ?_) (fun g => ?_)
      · replace h := h.1 g
        refine ex_aload_n (pc := 60) d_At_countOrder_60 rfl ?_
        refine ex_getI (pc := 61) d_At_countOrder_61 rfl rfl (by decide) k1 ?_
        refine ex_aload_n (pc := 64) d_At_countOrder_64 rfl ?_
        obtain ⟨q20, e21, h⟩ := h
        obtain ⟨k22, h⟩ := h
        refine ex_getI (pc := 65) d_At_countOrder_65 e21 rfl (by decide) k22 ?_
        refine ex_max (pc := 68) rfl (Nat.le_of_ble_eq_true rfl) ?_
        refine ex_putI (pc := 71) d_At_countOrder_71 rfl rfl k1 ?_
        replace h := h _ rfl
        refine ex_aload_n (pc := 74) d_At_countOrder_74 rfl ?_
        refine ex_aload_n (pc := 75) d_At_countOrder_75 rfl ?_
        refine ex_getI (pc := 76) d_At_countOrder_76 rfl rfl (by decide) k1 ?_
        refine ex_if_ne (tgt := 89) (pc := 79) d_At_countOrder_79 (by decide) (fun g => ?_) (fun g => ?_)
        · replace h := h.1 g
          refine ex_aload_n (pc := 89) d_At_countOrder_89 rfl ?_
          refine ex_getI (pc := 90) d_At_countOrder_90 rfl rfl (by decide) k1 ?_
          refine ex_aload_n (pc := 93) d_At_countOrder_93 rfl ?_
          refine ex_getI (pc := 94) d_At_countOrder_94 e21 rfl (by decide) k22 ?_
          refine ex_ior (pc := 97) d_At_countOrder_97 ?_
          refine ex_putI (pc := 98) d_At_countOrder_98 rfl rfl k1 ?_
          replace h := h _ rfl
          refine ex_aload_n (pc := 101) d_At_countOrder_101 rfl ?_
          refine ex_dup (pc := 102) d_At_countOrder_102 ?_
          refine ex_getI (pc := 103) d_At_countOrder_103 rfl rfl (by decide) k1 ?_
          refine ex_iconst (w := 1) (pc := 106) d_At_countOrder_106 (by decide) ?_
          refine ex_iadd (pc := 107) d_At_countOrder_107 ?_
          refine ex_putI (pc := 108) d_At_countOrder_108 rfl rfl k1 ?_
          replace h := h _ rfl
          exact ex_ret_v (pc := 111) d_At_countOrder_111 rfl h
        · replace h := h.2 g
          refine ex_aload_n (pc := 82) d_At_countOrder_82 rfl ?_
          refine ex_getI (pc := 83) d_At_countOrder_83 e21 rfl (by decide) k22 ?_
          refine ex_goto (tgt := 98) (pc := 86) d_At_countOrder_86 (by decide) ?_
          refine ex_putI (pc := 98) d_At_countOrder_98 rfl rfl k1 ?_
          replace h := h _ rfl
          refine ex_aload_n (pc := 101) d_At_countOrder_101 rfl ?_
          refine ex_dup (pc := 102) d_At_countOrder_102 ?_
          refine ex_getI (pc := 103) d_At_countOrder_103 rfl rfl (by decide) k1 ?_
          refine ex_iconst (w := 1) (pc := 106) d_At_countOrder_106 (by decide) ?_
          refine ex_iadd (pc := 107) d_At_countOrder_107 ?_
          refine ex_putI (pc := 108) d_At_countOrder_108 rfl rfl k1 ?_
          replace h := h _ rfl
          exact ex_ret_v (pc := 111) d_At_countOrder_111 rfl h
      · replace h := h.2 g
        refine ex_aload_n (pc := 53) d_At_countOrder_53 rfl ?_
        obtain ⟨q28, e29, h⟩ := h
        obtain ⟨k30, h⟩ := h
        refine ex_getI (pc := 54) d_At_countOrder_54 e29 rfl (by decide) k30 ?_
        refine ex_goto (tgt := 71) (pc := 57) d_At_countOrder_57 (by decide) ?_
        refine ex_putI (pc := 71) d_At_countOrder_71 rfl rfl k1 ?_
        replace h := h _ rfl
        refine ex_aload_n (pc := 74) d_At_countOrder_74 rfl ?_
        refine ex_aload_n (pc := 75) d_At_countOrder_75 rfl ?_
        refine ex_getI (pc := 76) d_At_countOrder_76 rfl rfl (by decide) k1 ?_
        refine ex_if_ne (tgt := 89) (pc := 79) d_At_countOrder_79 (by decide) (fun g => ?_) (fun g => ?_)
        · replace h := h.1 g
          refine ex_aload_n (pc := 89) d_At_countOrder_89 rfl ?_
          refine ex_getI (pc := 90) d_At_countOrder_90 rfl rfl (by decide) k1 ?_
          refine ex_aload_n (pc := 93) d_At_countOrder_93 rfl ?_
          refine ex_getI (pc := 94) d_At_countOrder_94 e29 rfl (by decide) k30 ?_
          refine ex_ior (pc := 97) d_At_countOrder_97 ?_
          refine ex_putI (pc := 98) d_At_countOrder_98 rfl rfl k1 ?_
          replace h := h _ rfl
          refine ex_aload_n (pc := 101) d_At_countOrder_101 rfl ?_
          refine ex_dup (pc := 102) d_At_countOrder_102 ?_
          refine ex_getI (pc := 103) d_At_countOrder_103 rfl rfl (by decide) k1 ?_
          refine ex_iconst (w := 1) (pc := 106) d_At_countOrder_106 (by decide) ?_
          refine ex_iadd (pc := 107) d_At_countOrder_107 ?_
          refine ex_putI (pc := 108) d_At_countOrder_108 rfl rfl k1 ?_
          replace h := h _ rfl
          exact ex_ret_v (pc := 111) d_At_countOrder_111 rfl h
        · replace h := h.2 g
          refine ex_aload_n (pc := 82) d_At_countOrder_82 rfl ?_
          refine ex_getI (pc := 83) d_At_countOrder_83 e29 rfl (by decide) k30 ?_
          refine ex_goto (tgt := 98) (pc := 86) d_At_countOrder_86 (by decide) ?_
          refine ex_putI (pc := 98) d_At_countOrder_98 rfl rfl k1 ?_
          replace h := h _ rfl
          refine ex_aload_n (pc := 101) d_At_countOrder_101 rfl ?_
          refine ex_dup (pc := 102) d_At_countOrder_102 ?_
          refine ex_getI (pc := 103) d_At_countOrder_103 rfl rfl (by decide) k1 ?_
          refine ex_iconst (w := 1) (pc := 106) d_At_countOrder_106 (by decide) ?_
          refine ex_iadd (pc := 107) d_At_countOrder_107 ?_
          refine ex_putI (pc := 108) d_At_countOrder_108 rfl rfl k1 ?_
          replace h := h _ rfl
          exact ex_ret_v (pc := 111) d_At_countOrder_111 rfl h
    · replace h := h.2 g
      refine ex_aload_n (pc := 15) d_At_countOrder_15 rfl ?_
      obtain ⟨q36, e37, h⟩ := h
      obtain ⟨k38, h⟩ := h
      refine ex_getI (pc := 16) d_At_countOrder_16 e37 rfl (by decide) k38 ?_
      refine ex_aload_n (pc := 19) d_At_countOrder_19 rfl ?_
      refine ex_getI (pc := 20) d_At_countOrder_20 rfl rfl (by decide) k1 ?_
      refine ex_icmp_ne (tgt := 41) (pc := 23) d_At_countOrder_23 (by decide) (fun g => ?_) (fun g => ?_)
      · replace h := h.1 g
        refine ex_iconst (w := 0) (pc := 41) d_At_countOrder_41 (by decide) ?_
        refine ex_putZ (pc := 42) d_At_countOrder_42 rfl rfl k1 (Or.inl rfl) ?_
        replace h := h _ rfl
        refine ex_aload_n (pc := 45) d_At_countOrder_45 rfl ?_
        refine ex_aload_n (pc := 46) d_At_countOrder_46 rfl ?_
        refine ex_getI (pc := 47) d_At_countOrder_47 rfl rfl (by decide) k1 ?_
        refine ex_if_ne (tgt := 60) (pc := 50) d_At_countOrder_50 (by decide) (fun g => ?_) (fun g => ?_)
        · replace h := h.1 g
          refine ex_aload_n (pc := 60) d_At_countOrder_60 rfl ?_
          refine ex_getI (pc := 61) d_At_countOrder_61 rfl rfl (by decide) k1 ?_
          refine ex_aload_n (pc := 64) d_At_countOrder_64 rfl ?_
          refine ex_getI (pc := 65) d_At_countOrder_65 e37 rfl (by decide) k38 ?_
          refine ex_max (pc := 68) rfl (Nat.le_of_ble_eq_true rfl) ?_
          refine ex_putI (pc := 71) d_At_countOrder_71 rfl rfl k1 ?_
          replace h := h _ rfl
          refine ex_aload_n (pc := 74) d_At_countOrder_74 rfl ?_
          refine ex_aload_n (pc := 75) d_At_countOrder_75 rfl ?_
          refine ex_getI (pc := 76) d_At_countOrder_76 rfl rfl (by decide) k1 ?_
          refine ex_if_ne (tgt := 89) (pc := 79) d_At_countOrder_79 (by decide) (fun g => ?_) (fun g => ?_)
          · replace h := h.1 g
            refine ex_aload_n (pc := 89) d_At_countOrder_89 rfl ?_
            refine ex_getI (pc := 90) d_At_countOrder_90 rfl rfl (by decide) k1 ?_
            refine ex_aload_n (pc := 93) d_At_countOrder_93 rfl ?_
            refine ex_getI (pc := 94) d_At_countOrder_94 e37 rfl (by decide) k38 ?_
            refine ex_ior (pc := 97) d_At_countOrder_97 ?_
            refine ex_putI (pc := 98) d_At_countOrder_98 rfl rfl k1 ?_
            replace h := h _ rfl
            refine ex_aload_n (pc := 101) d_At_countOrder_101 rfl ?_
            refine ex_dup (pc := 102) d_At_countOrder_102 ?_
            refine ex_getI (pc := 103) d_At_countOrder_103 rfl rfl (by decide) k1 ?_
            refine ex_iconst (w := 1) (pc := 106) d_At_countOrder_106 (by decide) ?_
            refine ex_iadd (pc := 107) d_At_countOrder_107 ?_
            refine ex_putI (pc := 108) d_At_countOrder_108 rfl rfl k1 ?_
            replace h := h _ rfl
            exact ex_ret_v (pc := 111) d_At_countOrder_111 rfl h
          · replace h := h.2 g
            refine ex_aload_n (pc := 82) d_At_countOrder_82 rfl ?_
            refine ex_getI (pc := 83) d_At_countOrder_83 e37 rfl (by decide) k38 ?_
            refine ex_goto (tgt := 98) (pc := 86) d_At_countOrder_86 (by decide) ?_
            refine ex_putI (pc := 98) d_At_countOrder_98 rfl rfl k1 ?_
            replace h := h _ rfl
            refine ex_aload_n (pc := 101) d_At_countOrder_101 rfl ?_
            refine ex_dup (pc := 102) d_At_countOrder_102 ?_
            refine ex_getI (pc := 103) d_At_countOrder_103 rfl rfl (by decide) k1 ?_
            refine ex_iconst (w := 1) (pc := 106) d_At_countOrder_106 (by decide) ?_
            refine ex_iadd (pc := 107) d_At_countOrder_107 ?_
            refine ex_putI (pc := 108) d_At_countOrder_108 rfl rfl k1 ?_
            replace h := h _ rfl
            exact ex_ret_v (pc := 111) d_At_countOrder_111 rfl h
        · replace h := h.2 g
          refine ex_aload_n (pc := 53) d_At_countOrder_53 rfl ?_
          refine ex_getI (pc := 54) d_At_countOrder_54 e37 rfl (by decide) k38 ?_
          refine ex_goto (tgt := 71) (pc := 57) d_At_countOrder_57 (by decide) ?_
          refine ex_putI (pc := 71) d_At_countOrder_71 rfl rfl k1 ?_
          replace h := h _ rfl
          refine ex_aload_n (pc := 74) d_At_countOrder_74 rfl ?_
          refine ex_aload_n (pc := 75) d_At_countOrder_75 rfl ?_
          refine ex_getI (pc := 76) d_At_countOrder_76 rfl rfl (by decide) k1 ?_
          refine ex_if_ne (tgt := 89) (pc := 79) d_At_countOrder_79 (by decide) (fun g => ?_) (fun g => ?_)
          · replace h := h.1 g
            refine ex_aload_n (pc := 89) d_At_countOrder_89 rfl ?_
            refine ex_getI (pc := 90) d_At_countOrder_90 rfl rfl (by decide) k1 ?_
            refine ex_aload_n (pc := 93) d_At_countOrder_93 rfl ?_
            refine ex_getI (pc := 94) d_At_countOrder_94 e37 rfl (by decide) k38 ?_
            refine ex_ior (pc := 97) d_At_countOrder_97 ?_
            refine ex_putI (pc := 98) d_At_countOrder_98 rfl rfl k1 ?_
            replace h := h _ rfl
            refine ex_aload_n (pc := 101) d_At_countOrder_101 rfl ?_
            refine ex_dup (pc := 102) d_At_countOrder_102 ?_
            refine ex_getI (pc := 103) d_At_countOrder_103 rfl rfl (by decide) k1 ?_
            refine ex_iconst (w := 1) (pc := 106) d_At_countOrder_106 (by decide) ?_
            refine ex_iadd (pc := 107) d_At_countOrder_107 ?_
            refine ex_putI (pc := 108) d_At_countOrder_108 rfl rfl k1 ?_
            replace h := h _ rfl
            exact ex_ret_v (pc := 111) d_At_countOrder_111 rfl h
          · replace h := h.2 g
            refine ex_aload_n (pc := 82) d_At_countOrder_82 rfl ?_
            refine ex_getI (pc := 83) d_At_countOrder_83 e37 rfl (by decide) k38 ?_
            refine ex_goto (tgt := 98) (pc := 86) d_At_countOrder_86 (by decide) ?_
            refine ex_putI (pc := 98) d_At_countOrder_98 rfl rfl k1 ?_
            replace h := h _ rfl
            refine ex_aload_n (pc := 101) d_At_countOrder_101 rfl ?_
            refine ex_dup (pc := 102) d_At_countOrder_102 ?_
            refine ex_getI (pc := 103) d_At_countOrder_103 rfl rfl (by decide) k1 ?_
            refine ex_iconst (w := 1) (pc := 106) d_At_countOrder_106 (by decide) ?_
            refine ex_iadd (pc := 107) d_At_countOrder_107 ?_
            refine ex_putI (pc := 108) d_At_countOrder_108 rfl rfl k1 ?_
            replace h := h _ rfl
            exact ex_ret_v (pc := 111) d_At_countOrder_111 rfl h
      · replace h := h.2 g
        refine ex_aload_n (pc := 26) d_At_countOrder_26 rfl ?_
        refine ex_getI (pc := 27) d_At_countOrder_27 e37 rfl (by decide) k38 ?_
        refine ex_aload_n (pc := 30) d_At_countOrder_30 rfl ?_
        refine ex_getI (pc := 31) d_At_countOrder_31 rfl rfl (by decide) k1 ?_
        refine ex_icmp_ne (tgt := 41) (pc := 34) d_At_countOrder_34 (by decide) (fun g => ?_) (fun g => ?_)
        · replace h := h.1 g
          refine ex_iconst (w := 0) (pc := 41) d_At_countOrder_41 (by decide) ?_
          refine ex_putZ (pc := 42) d_At_countOrder_42 rfl rfl k1 (Or.inl rfl) ?_
          replace h := h _ rfl
          refine ex_aload_n (pc := 45) d_At_countOrder_45 rfl ?_
          refine ex_aload_n (pc := 46) d_At_countOrder_46 rfl ?_
          refine ex_getI (pc := 47) d_At_countOrder_47 rfl rfl (by decide) k1 ?_
          refine ex_if_ne (tgt := 60) (pc := 50) d_At_countOrder_50 (by decide) (fun g => ?_) (fun g => ?_)
          · replace h := h.1 g
            refine ex_aload_n (pc := 60) d_At_countOrder_60 rfl ?_
            refine ex_getI (pc := 61) d_At_countOrder_61 rfl rfl (by decide) k1 ?_
            refine ex_aload_n (pc := 64) d_At_countOrder_64 rfl ?_
            refine ex_getI (pc := 65) d_At_countOrder_65 e37 rfl (by decide) k38 ?_
            refine ex_max (pc := 68) rfl (Nat.le_of_ble_eq_true rfl) ?_
            refine ex_putI (pc := 71) d_At_countOrder_71 rfl rfl k1 ?_
            replace h := h _ rfl
            refine ex_aload_n (pc := 74) d_At_countOrder_74 rfl ?_
            refine ex_aload_n (pc := 75) d_At_countOrder_75 rfl ?_
            refine ex_getI (pc := 76) d_At_countOrder_76 rfl rfl (by decide) k1 ?_
            refine ex_if_ne (tgt := 89) (pc := 79) d_At_countOrder_79 (by decide) (fun g => ?_) (fun g => ?_)
            · replace h := h.1 g
              refine ex_aload_n (pc := 89) d_At_countOrder_89 rfl ?_
              refine ex_getI (pc := 90) d_At_countOrder_90 rfl rfl (by decide) k1 ?_
              refine ex_aload_n (pc := 93) d_At_countOrder_93 rfl ?_
              refine ex_getI (pc := 94) d_At_countOrder_94 e37 rfl (by decide) k38 ?_
              refine ex_ior (pc := 97) d_At_countOrder_97 ?_
              refine ex_putI (pc := 98) d_At_countOrder_98 rfl rfl k1 ?_
              replace h := h _ rfl
              refine ex_aload_n (pc := 101) d_At_countOrder_101 rfl ?_
              refine ex_dup (pc := 102) d_At_countOrder_102 ?_
              refine ex_getI (pc := 103) d_At_countOrder_103 rfl rfl (by decide) k1 ?_
              refine ex_iconst (w := 1) (pc := 106) d_At_countOrder_106 (by decide) ?_
              refine ex_iadd (pc := 107) d_At_countOrder_107 ?_
              refine ex_putI (pc := 108) d_At_countOrder_108 rfl rfl k1 ?_
              replace h := h _ rfl
              exact ex_ret_v (pc := 111) d_At_countOrder_111 rfl h
            · replace h := h.2 g
              refine ex_aload_n (pc := 82) d_At_countOrder_82 rfl ?_
              refine ex_getI (pc := 83) d_At_countOrder_83 e37 rfl (by decide) k38 ?_
              refine ex_goto (tgt := 98) (pc := 86) d_At_countOrder_86 (by decide) ?_
              refine ex_putI (pc := 98) d_At_countOrder_98 rfl rfl k1 ?_
              replace h := h _ rfl
              refine ex_aload_n (pc := 101) d_At_countOrder_101 rfl ?_
              refine ex_dup (pc := 102) d_At_countOrder_102 ?_
              refine ex_getI (pc := 103) d_At_countOrder_103 rfl rfl (by decide) k1 ?_
              refine ex_iconst (w := 1) (pc := 106) d_At_countOrder_106 (by decide) ?_
              refine ex_iadd (pc := 107) d_At_countOrder_107 ?_
              refine ex_putI (pc := 108) d_At_countOrder_108 rfl rfl k1 ?_
              replace h := h _ rfl
              exact ex_ret_v (pc := 111) d_At_countOrder_111 rfl h
          · replace h := h.2 g
            refine ex_aload_n (pc := 53) d_At_countOrder_53 rfl ?_
            refine ex_getI (pc := 54) d_At_countOrder_54 e37 rfl (by decide) k38 ?_
            refine ex_goto (tgt := 71) (pc := 57) d_At_countOrder_57 (by decide) ?_
            refine ex_putI (pc := 71) d_At_countOrder_71 rfl rfl k1 ?_
            replace h := h _ rfl
            refine ex_aload_n (pc := 74) d_At_countOrder_74 rfl ?_
            refine ex_aload_n (pc := 75) d_At_countOrder_75 rfl ?_
            refine ex_getI (pc := 76) d_At_countOrder_76 rfl rfl (by decide) k1 ?_
            refine ex_if_ne (tgt := 89) (pc := 79) d_At_countOrder_79 (by decide) (fun g => ?_) (fun g => ?_)
            · replace h := h.1 g
              refine ex_aload_n (pc := 89) d_At_countOrder_89 rfl ?_
              refine ex_getI (pc := 90) d_At_countOrder_90 rfl rfl (by decide) k1 ?_
              refine ex_aload_n (pc := 93) d_At_countOrder_93 rfl ?_
              refine ex_getI (pc := 94) d_At_countOrder_94 e37 rfl (by decide) k38 ?_
              refine ex_ior (pc := 97) d_At_countOrder_97 ?_
              refine ex_putI (pc := 98) d_At_countOrder_98 rfl rfl k1 ?_
              replace h := h _ rfl
              refine ex_aload_n (pc := 101) d_At_countOrder_101 rfl ?_
              refine ex_dup (pc := 102) d_At_countOrder_102 ?_
              refine ex_getI (pc := 103) d_At_countOrder_103 rfl rfl (by decide) k1 ?_
              refine ex_iconst (w := 1) (pc := 106) d_At_countOrder_106 (by decide) ?_
              refine ex_iadd (pc := 107) d_At_countOrder_107 ?_
              refine ex_putI (pc := 108) d_At_countOrder_108 rfl rfl k1 ?_
              replace h := h _ rfl
              exact ex_ret_v (pc := 111) d_At_countOrder_111 rfl h
            · replace h := h.2 g
              refine ex_aload_n (pc := 82) d_At_countOrder_82 rfl ?_
              refine ex_getI (pc := 83) d_At_countOrder_83 e37 rfl (by decide) k38 ?_
              refine ex_goto (tgt := 98) (pc := 86) d_At_countOrder_86 (by decide) ?_
              refine ex_putI (pc := 98) d_At_countOrder_98 rfl rfl k1 ?_
              replace h := h _ rfl
              refine ex_aload_n (pc := 101) d_At_countOrder_101 rfl ?_
              refine ex_dup (pc := 102) d_At_countOrder_102 ?_
              refine ex_getI (pc := 103) d_At_countOrder_103 rfl rfl (by decide) k1 ?_
              refine ex_iconst (w := 1) (pc := 106) d_At_countOrder_106 (by decide) ?_
              refine ex_iadd (pc := 107) d_At_countOrder_107 ?_
              refine ex_putI (pc := 108) d_At_countOrder_108 rfl rfl k1 ?_
              replace h := h _ rfl
              exact ex_ret_v (pc := 111) d_At_countOrder_111 rfl h
        · replace h := h.2 g
          refine ex_iconst (w := 1) (pc := 37) d_At_countOrder_37 (by decide) ?_
          refine ex_goto (tgt := 42) (pc := 38) d_At_countOrder_38 (by decide) ?_
          refine ex_putZ (pc := 42) d_At_countOrder_42 rfl rfl k1 (Or.inr rfl) ?_
          replace h := h _ rfl
          refine ex_aload_n (pc := 45) d_At_countOrder_45 rfl ?_
          refine ex_aload_n (pc := 46) d_At_countOrder_46 rfl ?_
          refine ex_getI (pc := 47) d_At_countOrder_47 rfl rfl (by decide) k1 ?_
          refine ex_if_ne (tgt := 60) (pc := 50) d_At_countOrder_50 (by decide) (fun g => ?_) (fun g => ?_)
          · replace h := h.1 g
            refine ex_aload_n (pc := 60) d_At_countOrder_60 rfl ?_
            refine ex_getI (pc := 61) d_At_countOrder_61 rfl rfl (by decide) k1 ?_
            refine ex_aload_n (pc := 64) d_At_countOrder_64 rfl ?_
            refine ex_getI (pc := 65) d_At_countOrder_65 e37 rfl (by decide) k38 ?_
            refine ex_max (pc := 68) rfl (Nat.le_of_ble_eq_true rfl) ?_
            refine ex_putI (pc := 71) d_At_countOrder_71 rfl rfl k1 ?_
            replace h := h _ rfl
            refine ex_aload_n (pc := 74) d_At_countOrder_74 rfl ?_
            refine ex_aload_n (pc := 75) d_At_countOrder_75 rfl ?_
            refine ex_getI (pc := 76) d_At_countOrder_76 rfl rfl (by decide) k1 ?_
            refine ex_if_ne (tgt := 89) (pc := 79) d_At_countOrder_79 (by decide) (fun g => ?_) (fun g => ?_)
            · replace h := h.1 g
              refine ex_aload_n (pc := 89) d_At_countOrder_89 rfl ?_
              refine ex_getI (pc := 90) d_At_countOrder_90 rfl rfl (by decide) k1 ?_
              refine ex_aload_n (pc := 93) d_At_countOrder_93 rfl ?_
              refine ex_getI (pc := 94) d_At_countOrder_94 e37 rfl (by decide) k38 ?_
              refine ex_ior (pc := 97) d_At_countOrder_97 ?_
              refine ex_putI (pc := 98) d_At_countOrder_98 rfl rfl k1 ?_
              replace h := h _ rfl
              refine ex_aload_n (pc := 101) d_At_countOrder_101 rfl ?_
              refine ex_dup (pc := 102) d_At_countOrder_102 ?_
              refine ex_getI (pc := 103) d_At_countOrder_103 rfl rfl (by decide) k1 ?_
              refine ex_iconst (w := 1) (pc := 106) d_At_countOrder_106 (by decide) ?_
              refine ex_iadd (pc := 107) d_At_countOrder_107 ?_
              refine ex_putI (pc := 108) d_At_countOrder_108 rfl rfl k1 ?_
              replace h := h _ rfl
              exact ex_ret_v (pc := 111) d_At_countOrder_111 rfl h
            · replace h := h.2 g
              refine ex_aload_n (pc := 82) d_At_countOrder_82 rfl ?_
              refine ex_getI (pc := 83) d_At_countOrder_83 e37 rfl (by decide) k38 ?_
              refine ex_goto (tgt := 98) (pc := 86) d_At_countOrder_86 (by decide) ?_
              refine ex_putI (pc := 98) d_At_countOrder_98 rfl rfl k1 ?_
              replace h := h _ rfl
              refine ex_aload_n (pc := 101) d_At_countOrder_101 rfl ?_
              refine ex_dup (pc := 102) d_At_countOrder_102 ?_
              refine ex_getI (pc := 103) d_At_countOrder_103 rfl rfl (by decide) k1 ?_
              refine ex_iconst (w := 1) (pc := 106) d_At_countOrder_106 (by decide) ?_
              refine ex_iadd (pc := 107) d_At_countOrder_107 ?_
              refine ex_putI (pc := 108) d_At_countOrder_108 rfl rfl k1 ?_
              replace h := h _ rfl
              exact ex_ret_v (pc := 111) d_At_countOrder_111 rfl h
          · replace h := h.2 g
            refine ex_aload_n (pc := 53) d_At_countOrder_53 rfl ?_
            refine ex_getI (pc := 54) d_At_countOrder_54 e37 rfl (by decide) k38 ?_
            refine ex_goto (tgt := 71) (pc := 57) d_At_countOrder_57 (by decide) ?_
            refine ex_putI (pc := 71) d_At_countOrder_71 rfl rfl k1 ?_
            replace h := h _ rfl
            refine ex_aload_n (pc := 74) d_At_countOrder_74 rfl ?_
            refine ex_aload_n (pc := 75) d_At_countOrder_75 rfl ?_
            refine ex_getI (pc := 76) d_At_countOrder_76 rfl rfl (by decide) k1 ?_
            refine ex_if_ne (tgt := 89) (pc := 79) d_At_countOrder_79 (by decide) (fun g => ?_) (fun g => ?_)
            · replace h := h.1 g
              refine ex_aload_n (pc := 89) d_At_countOrder_89 rfl ?_
              refine ex_getI (pc := 90) d_At_countOrder_90 rfl rfl (by decide) k1 ?_
              refine ex_aload_n (pc := 93) d_At_countOrder_93 rfl ?_
              refine ex_getI (pc := 94) d_At_countOrder_94 e37 rfl (by decide) k38 ?_
              refine ex_ior (pc := 97) d_At_countOrder_97 ?_
              refine ex_putI (pc := 98) d_At_countOrder_98 rfl rfl k1 ?_
              replace h := h _ rfl
              refine ex_aload_n (pc := 101) d_At_countOrder_101 rfl ?_
              refine ex_dup (pc := 102) d_At_countOrder_102 ?_
              refine ex_getI (pc := 103) d_At_countOrder_103 rfl rfl (by decide) k1 ?_
              refine ex_iconst (w := 1) (pc := 106) d_At_countOrder_106 (by decide) ?_
              refine ex_iadd (pc := 107) d_At_countOrder_107 ?_
              refine ex_putI (pc := 108) d_At_countOrder_108 rfl rfl k1 ?_
              replace h := h _ rfl
              exact ex_ret_v (pc := 111) d_At_countOrder_111 rfl h
            · replace h := h.2 g
              refine ex_aload_n (pc := 82) d_At_countOrder_82 rfl ?_
              refine ex_getI (pc := 83) d_At_countOrder_83 e37 rfl (by decide) k38 ?_
              refine ex_goto (tgt := 98) (pc := 86) d_At_countOrder_86 (by decide) ?_
              refine ex_putI (pc := 98) d_At_countOrder_98 rfl rfl k1 ?_
              replace h := h _ rfl
              refine ex_aload_n (pc := 101) d_At_countOrder_101 rfl ?_
              refine ex_dup (pc := 102) d_At_countOrder_102 ?_
              refine ex_getI (pc := 103) d_At_countOrder_103 rfl rfl (by decide) k1 ?_
              refine ex_iconst (w := 1) (pc := 106) d_At_countOrder_106 (by decide) ?_
              refine ex_iadd (pc := 107) d_At_countOrder_107 ?_
              refine ex_putI (pc := 108) d_At_countOrder_108 rfl rfl k1 ?_
              replace h := h _ rfl
              exact ex_ret_v (pc := 111) d_At_countOrder_111 rfl h
theorem sg_Rp_commitHere_0 {h0 : Nat} {v1 : Int32} {a2 : Option Nat} {M : me_M} {Q : Option me_V → me_M → Prop} (h : mKd M h0 = 3 ∧ ∃ q2, (mR M 1132 h0 0) = some q2 ∧ mKd M q2 = 104 ∧ vp_in v1 (mLn M q2) ∧ ∃ q6, (mR M 104 q2 v1.toNatClampNeg) = some q6 ∧ mKd M q6 = 4 ∧ EX eL X_En_become 0 [some (.inr (some q6)), some (.inl 3), some (.inr a2)] [] M (fun r10 M9 => r10 = none ∧ mKd M9 h0 = 3 ∧ EX eL X_Rp_sendToOthers 0 [some (.inr (some h0)), some (.inl 4), some (.inl v1), some (.inl 0), some (.inr a2), none] [] M9 (fun r13 M12 => r13 = none ∧ Q none M12))) : EX eL X_Rp_commitHere 0 [some (.inr (some h0)), some (.inl v1), some (.inr a2)] [] M Q := by
  refine ex_aload_n (pc := 0) d_Rp_commitHere_0 rfl ?_
  obtain ⟨k1, h⟩ := h
  refine ex_getR (pc := 1) d_Rp_commitHere_1 rfl rfl k1 ?_
  refine ex_iload_n (pc := 4) d_Rp_commitHere_4 rfl ?_
  obtain ⟨q2, e3, h⟩ := h
  obtain ⟨k4, h⟩ := h
  obtain ⟨b5, h⟩ := h
  refine ex_aald (pc := 5) d_Rp_commitHere_5 e3 k4 (by decide) b5 ?_
  refine ex_iconst (w := 3) (pc := 6) d_Rp_commitHere_6 (by decide) ?_
  refine ex_aload_n (pc := 7) d_Rp_commitHere_7 rfl ?_
  obtain ⟨q6, e7, h⟩ := h
  obtain ⟨k8, h⟩ := h
  refine ex_cVV (as := [_, _]) (st := []) (pc := 8) e7 rfl k8 rfl rfl rfl (Nat.le_of_ble_eq_true rfl) (EX.mono h fun r10 M9 h => ?_)
  obtain ⟨rfl, h⟩ := h
  refine ⟨rfl, ?_⟩
  refine ex_aload_n (pc := 11) d_Rp_commitHere_11 rfl ?_
  refine ex_iconst (w := 4) (pc := 12) d_Rp_commitHere_12 (by decide) ?_
  refine ex_iload_n (pc := 13) d_Rp_commitHere_13 rfl ?_
  refine ex_iconst (w := 0) (pc := 14) d_Rp_commitHere_14 (by decide) ?_
  refine ex_aload_n (pc := 15) d_Rp_commitHere_15 rfl ?_
  obtain ⟨k11, h⟩ := h
  refine ex_cVV (as := [_, _, _, _]) (st := []) (pc := 16) rfl rfl k11 rfl rfl rfl (Nat.le_of_ble_eq_true rfl) (EX.mono h fun r13 M12 h => ?_)
  obtain ⟨rfl, h⟩ := h
  refine ⟨rfl, ?_⟩
  exact ex_ret_v (pc := 19) d_Rp_commitHere_19 rfl h
theorem sg_At_enterPhase_0 {h0 : Nat} {v1 : Int32} {M : me_M} {Q : Option me_V → me_M → Prop} (h : mKd M h0 = 6 ∧ ∀ M2, M2 = mSetI M 1323 h0 0 v1 → ∀ M3, M3 = mSetI M2 1324 h0 0 0 → Q none M3) : EX eL X_At_enterPhase 0 [some (.inr (some h0)), some (.inl v1)] [] M Q := by
  refine ex_aload_n (pc := 0) d_At_enterPhase_0 rfl ?_
  refine ex_iload_n (pc := 1) d_At_enterPhase_1 rfl ?_
  obtain ⟨k1, h⟩ := h
  refine ex_putI (pc := 2) d_At_enterPhase_2 rfl rfl k1 ?_
  replace h := h _ rfl
  refine ex_aload_n (pc := 5) d_At_enterPhase_5 rfl ?_
  refine ex_iconst (w := 0) (pc := 6) d_At_enterPhase_6 (by decide) ?_
  refine ex_putI (pc := 7) d_At_enterPhase_7 rfl rfl k1 ?_
  replace h := h _ rfl
  exact ex_ret_v (pc := 10) d_At_enterPhase_10 rfl h
theorem sg_Rp_beginAccepting_0 {h0 : Nat} {v1 : Int32} {a2 : Option Nat} {a3 : Option Nat} {M : me_M} {Q : Option me_V → me_M → Prop} (h : mKd M h0 = 3 ∧ ∃ q2, (mR M 1132 h0 0) = some q2 ∧ mKd M q2 = 104 ∧ vp_in v1 (mLn M q2) ∧ ∃ q6, a2 = some q6 ∧ mKd M q6 = 6 ∧ ∃ q9, (mR M 104 q2 v1.toNatClampNeg) = some q9 ∧ mKd M q9 = 4 ∧ EX eL X_En_vote 0 [some (.inr (some q9)), some (.inl 2), some (.inr a3), some (.inl (mI M 1320 q6 0))] [] M (fun r13 M12 => r13 = none ∧ mKd M12 q6 = 6 ∧ EX eL X_At_enterPhase 0 [some (.inr (some q6)), some (.inl 2)] [] M12 (fun r16 M15 => r16 = none ∧ mKd M15 q6 = 6 ∧ mKd M15 h0 = 3 ∧ EX eL X_Rp_sendToOthers 0 [some (.inr (some h0)), some (.inl 2), some (.inl v1), some (.inl (mI M15 1320 q6 0)), some (.inr a3), none] [] M15 (fun r20 M19 => r20 = none ∧ Q none M19)))) : EX eL X_Rp_beginAccepting 0 [some (.inr (some h0)), some (.inl v1), some (.inr a2), some (.inr a3)] [] M Q := by
  refine ex_aload_n (pc := 0) d_Rp_beginAccepting_0 rfl ?_
  obtain ⟨k1, h⟩ := h
  refine ex_getR (pc := 1) d_Rp_beginAccepting_1 rfl rfl k1 ?_
  refine ex_iload_n (pc := 4) d_Rp_beginAccepting_4 rfl ?_
  obtain ⟨q2, e3, h⟩ := h
  obtain ⟨k4, h⟩ := h
  obtain ⟨b5, h⟩ := h
  refine ex_aald (pc := 5) d_Rp_beginAccepting_5 e3 k4 (by decide) b5 ?_
  refine ex_iconst (w := 2) (pc := 6) d_Rp_beginAccepting_6 (by decide) ?_
  refine ex_aload_n (pc := 7) d_Rp_beginAccepting_7 rfl ?_
  refine ex_aload_n (pc := 8) d_Rp_beginAccepting_8 rfl ?_
  obtain ⟨q6, e7, h⟩ := h
  obtain ⟨k8, h⟩ := h
  refine ex_getI (pc := 9) d_Rp_beginAccepting_9 e7 rfl (by decide) k8 ?_
  obtain ⟨q9, e10, h⟩ := h
  obtain ⟨k11, h⟩ := h
  refine ex_cVV (as := [_, _, _]) (st := []) (pc := 12) e10 rfl k11 rfl rfl rfl (Nat.le_of_ble_eq_true rfl) (EX.mono h fun r13 M12 h => ?_)
  obtain ⟨rfl, h⟩ := h
  refine ⟨rfl, ?_⟩
  refine ex_aload_n (pc := 15) d_Rp_beginAccepting_15 rfl ?_
  refine ex_iconst (w := 2) (pc := 16) d_Rp_beginAccepting_16 (by decide) ?_
  obtain ⟨k14, h⟩ := h
  refine ex_cVV (as := [_]) (st := []) (pc := 17) e7 rfl k14 rfl rfl rfl (Nat.le_of_ble_eq_true rfl) (EX.mono h fun r16 M15 h => ?_)
  obtain ⟨rfl, h⟩ := h
  refine ⟨rfl, ?_⟩
  refine ex_aload_n (pc := 20) d_Rp_beginAccepting_20 rfl ?_
  refine ex_iconst (w := 2) (pc := 21) d_Rp_beginAccepting_21 (by decide) ?_
  refine ex_iload_n (pc := 22) d_Rp_beginAccepting_22 rfl ?_
  refine ex_aload_n (pc := 23) d_Rp_beginAccepting_23 rfl ?_
  obtain ⟨k17, h⟩ := h
  refine ex_getI (pc := 24) d_Rp_beginAccepting_24 e7 rfl (by decide) k17 ?_
  refine ex_aload_n (pc := 27) d_Rp_beginAccepting_27 rfl ?_
  obtain ⟨k18, h⟩ := h
  refine ex_cVV (as := [_, _, _, _]) (st := []) (pc := 28) rfl rfl k18 rfl rfl rfl (Nat.le_of_ble_eq_true rfl) (EX.mono h fun r20 M19 h => ?_)
  obtain ⟨rfl, h⟩ := h
  refine ⟨rfl, ?_⟩
  exact ex_ret_v (pc := 31) d_Rp_beginAccepting_31 rfl h
theorem sg_Rp_onPreacceptOk_0 {h0 : Nat} {a1 : Option Nat} {M : me_M} {Q : Option me_V → me_M → Prop} (h : mKd M h0 = 3 ∧ EX eL X_Rp_liveAttempt 0 [some (.inr (some h0)), some (.inr a1), some (.inl 1), none, none] [] M (fun r3 M2 => ∃ a4, r3 = some (.inr a4) ∧ ((¬ a4 = none) → ∃ q5, a1 = some q5 ∧ mKd M2 q5 = 10 ∧ ∃ q8, a4 = some q8 ∧ mKd M2 q8 = 6 ∧ EX eL X_At_countOrder 0 [some (.inr (some q8)), some (.inr (mR M2 1581 q5 0))] [] M2 (fun r12 M11 => r12 = none ∧ mKd M11 h0 = 3 ∧ mKd M11 q5 = 10 ∧ ∃ q15, (mR M11 1132 h0 0) = some q15 ∧ mKd M11 q15 = 104 ∧ vp_in (mI M11 1579 q5 0) (mLn M11 q15) ∧ ∃ q19, (mR M11 104 q15 (mI M11 1579 q5 0).toNatClampNeg) = some q19 ∧ mKd M11 q19 = 4 ∧ ∃ q22, (mR M11 1193 q19 0) = some q22 ∧ mKd M11 q22 = 8 ∧ ∀ q26 M25, q26 = mSz M11 → M25 = mNew M11 8 0 3 → mKd M25 q8 = 6 ∧ EX eL X_Or_init 0 [some (.inr (some q26)), some (.inr (mR M11 1448 q22 0)), some (.inl (mI M25 1326 q8 0)), some (.inl (mI M25 1327 q8 0))] [] M25 (fun r30 M29 => r30 = none ∧ mKd M29 q8 = 6 ∧ (((mI M29 1321 q8 0) = 0) → mKd M29 h0 = 3 ∧ (((mI M29 1324 q8 0) < (mI M29 1130 h0 0)) → Q none M29) ∧ ((¬ (mI M29 1324 q8 0) < (mI M29 1130 h0 0)) → mKd M29 q5 = 10 ∧ EX eL X_Rp_beginAccepting 0 [some (.inr (some h0)), some (.inl (mI M29 1579 q5 0)), some (.inr a4), some (.inr (some q26))] [] M29 (fun r35 M34 => r35 = none ∧ Q none M34))) ∧ ((¬ (mI M29 1321 q8 0) = 0) → (((mI M29 1325 q8 0) = 0) → mKd M29 h0 = 3 ∧ (((mI M29 1324 q8 0) < (mI M29 1130 h0 0)) → Q none M29) ∧ ((¬ (mI M29 1324 q8 0) < (mI M29 1130 h0 0)) → mKd M29 q5 = 10 ∧ EX eL X_Rp_beginAccepting 0 [some (.inr (some h0)), some (.inl (mI M29 1579 q5 0)), some (.inr a4), some (.inr (some q26))] [] M29 (fun r39 M38 => r39 = none ∧ Q none M38))) ∧ ((¬ (mI M29 1325 q8 0) = 0) → mKd M29 h0 = 3 ∧ ((¬ (mI M29 1324 q8 0) = ((mI M29 1129 h0 0) - 2)) → Q none M29) ∧ (((mI M29 1324 q8 0) = ((mI M29 1129 h0 0) - 2)) → mKd M29 q5 = 10 ∧ EX eL X_Rp_commitHere 0 [some (.inr (some h0)), some (.inl (mI M29 1579 q5 0)), some (.inr (some q26))] [] M29 (fun r43 M42 => r43 = none ∧ Q none M42))))))) ∧ ((a4 = none) → Q none M2))) : EX eL X_Rp_onPreacceptOk 0 [some (.inr (some h0)), some (.inr a1), none, none, none, none] [] M Q := by
  refine ex_aload_n (pc := 0) d_Rp_onPreacceptOk_0 rfl ?_
  refine ex_aload_n (pc := 1) d_Rp_onPreacceptOk_1 rfl ?_
  refine ex_iconst (w := 1) (pc := 2) d_Rp_onPreacceptOk_2 (by decide) ?_
  obtain ⟨k1, h⟩ := h
  refine ex_cVR (as := [_, _]) (st := []) (pc := 3) rfl rfl k1 rfl rfl rfl (Nat.le_of_ble_eq_true rfl) (EX.mono h fun r3 M2 h => ?_)
  obtain ⟨a4, rfl, h⟩ := h
  refine ⟨_, rfl, ?_⟩
  refine ex_astore_n (ls2 := [_, _, _, _, _, _]) (pc := 6) d_Rp_onPreacceptOk_6 (Nat.le_of_ble_eq_true rfl) rfl ?_
  refine ex_aload_n (pc := 7) d_Rp_onPreacceptOk_7 rfl ?_
  refine ex_ifnonnull (tgt := 12) (pc := 8) d_Rp_onPreacceptOk_8 (by decide) (fun g => ?_) (fun g => ?_)
  · replace h := h.1 g
    refine ex_aload_n (pc := 12) d_Rp_onPreacceptOk_12 rfl ?_
    refine ex_aload_n (pc := 13) d_Rp_onPreacceptOk_13 rfl ?_
    obtain ⟨q5, e6, h⟩ := h
    obtain ⟨k7, h⟩ := h
    refine ex_getR (pc := 14) d_Rp_onPreacceptOk_14 e6 rfl k7 ?_
    obtain ⟨q8, e9, h⟩ := h
    obtain ⟨k10, h⟩ := h
    refine ex_cVV (as := [_]) (st := []) (pc := 17) e9 rfl k10 rfl rfl rfl (Nat.le_of_ble_eq_true rfl) (EX.mono h fun r12 M11 h => ?_)
    obtain ⟨rfl, h⟩ := h
    refine ⟨rfl, ?_⟩
    refine ex_aload_n (pc := 20) d_Rp_onPreacceptOk_20 rfl ?_
    obtain ⟨k13, h⟩ := h
    refine ex_getR (pc := 21) d_Rp_onPreacceptOk_21 rfl rfl k13 ?_
    refine ex_aload_n (pc := 24) d_Rp_onPreacceptOk_24 rfl ?_
    obtain ⟨k14, h⟩ := h
    refine ex_getI (pc := 25) d_Rp_onPreacceptOk_25 e6 rfl (by decide) k14 ?_
    obtain ⟨q15, e16, h⟩ := h
    obtain ⟨k17, h⟩ := h
    obtain ⟨b18, h⟩ := h
    refine ex_aald (pc := 28) d_Rp_onPreacceptOk_28 e16 k17 (by decide) b18 ?_
    obtain ⟨q19, e20, h⟩ := h
    obtain ⟨k21, h⟩ := h
    refine ex_getR (pc := 29) d_Rp_onPreacceptOk_29 e20 rfl k21 ?_
    obtain ⟨q22, e23, h⟩ := h
    obtain ⟨k24, h⟩ := h
    refine ex_getR (pc := 32) d_Rp_onPreacceptOk_32 e23 rfl k24 ?_
    refine ex_astore_n (ls2 := [_, _, _, _, _, _]) (pc := 35) d_Rp_onPreacceptOk_35 (Nat.le_of_ble_eq_true rfl) rfl ?_
    refine ex_new (ci := 7) (n := 3) (pc := 36) d_Rp_onPreacceptOk_36 rfl (fun k27 => ?_)
    replace h := h _ _ rfl rfl
    refine ex_dup (pc := 39) d_Rp_onPreacceptOk_39 ?_
    refine ex_aload_n (pc := 40) d_Rp_onPreacceptOk_40 rfl ?_
    refine ex_aload_n (pc := 41) d_Rp_onPreacceptOk_41 rfl ?_
    obtain ⟨k28, h⟩ := h
    refine ex_getI (pc := 42) d_Rp_onPreacceptOk_42 e9 rfl (by decide) k28 ?_
    refine ex_aload_n (pc := 45) d_Rp_onPreacceptOk_45 rfl ?_
    refine ex_getI (pc := 46) d_Rp_onPreacceptOk_46 e9 rfl (by decide) k28 ?_
    refine ex_cVV (as := [_, _, _]) (st := [_]) (pc := 49) rfl rfl k27 rfl rfl rfl (Nat.le_of_ble_eq_true rfl) (EX.mono h fun r30 M29 h => ?_)
    obtain ⟨rfl, h⟩ := h
    refine ⟨rfl, ?_⟩
    refine ex_astore (ls2 := [_, _, _, _, _, _]) (pc := 52) d_Rp_onPreacceptOk_52 (Nat.le_of_ble_eq_true rfl) rfl ?_
    refine ex_aload_n (pc := 54) d_Rp_onPreacceptOk_54 rfl ?_
    obtain ⟨k31, h⟩ := h
    refine ex_getI (pc := 55) d_Rp_onPreacceptOk_55 e9 rfl (by decide) k31 ?_
    refine ex_if_eq (tgt := 72) (pc := 58) d_Rp_onPreacceptOk_58 (by decide) (fun g => ?_) (fun g => ?_)
    · replace h := h.1 g
      refine ex_iconst (w := 0) (pc := 72) d_Rp_onPreacceptOk_72 (by decide) ?_
      refine ex_istore (ls2 := [_, _, _, _, _, _]) (pc := 73) d_Rp_onPreacceptOk_73 (Nat.le_of_ble_eq_true rfl) rfl ?_
      refine ex_iload (pc := 75) d_Rp_onPreacceptOk_75 rfl ?_
      refine ex_if_eq (tgt := 106) (pc := 77) d_Rp_onPreacceptOk_77 (by decide) (fun _ => ?_) (fun g => absurd g (by decide))
      refine ex_iload (pc := 106) d_Rp_onPreacceptOk_106 rfl ?_
      refine ex_if_ne (tgt := 133) (pc := 108) d_Rp_onPreacceptOk_108 (by decide) (fun g => absurd g (by decide)) (fun _ => ?_)
      refine ex_aload_n (pc := 111) d_Rp_onPreacceptOk_111 rfl ?_
      refine ex_getI (pc := 112) d_Rp_onPreacceptOk_112 e9 rfl (by decide) k31 ?_
      refine ex_aload_n (pc := 115) d_Rp_onPreacceptOk_115 rfl ?_
      obtain ⟨k32, h⟩ := h
      refine ex_getI (pc := 116) d_Rp_onPreacceptOk_116 rfl rfl (by decide) k32 ?_
      refine ex_icmp_lt (tgt := 133) (pc := 119) d_Rp_onPreacceptOk_119 (by decide) (fun g => ?_) (fun g => ?_)
      · replace h := h.1 g
        exact ex_ret_v (pc := 133) d_Rp_onPreacceptOk_133 rfl h
      · replace h := h.2 g
        refine ex_aload_n (pc := 122) d_Rp_onPreacceptOk_122 rfl ?_
        refine ex_aload_n (pc := 123) d_Rp_onPreacceptOk_123 rfl ?_
        obtain ⟨k33, h⟩ := h
        refine ex_getI (pc := 124) d_Rp_onPreacceptOk_124 e6 rfl (by decide) k33 ?_
        refine ex_aload_n (pc := 127) d_Rp_onPreacceptOk_127 rfl ?_
        refine ex_aload (pc := 128) d_Rp_onPreacceptOk_128 rfl ?_
        refine ex_cVV (as := [_, _, _]) (st := []) (pc := 130) rfl rfl k32 rfl rfl rfl (Nat.le_of_ble_eq_true rfl) (EX.mono h fun r35 M34 h => ?_)
        obtain ⟨rfl, h⟩ := h
        refine ⟨rfl, ?_⟩
        exact ex_ret_v (pc := 133) d_Rp_onPreacceptOk_133 rfl h
    · replace h := h.2 g
      refine ex_aload_n (pc := 61) d_Rp_onPreacceptOk_61 rfl ?_
      refine ex_getI (pc := 62) d_Rp_onPreacceptOk_62 e9 rfl (by decide) k31 ?_
      refine ex_if_eq (tgt := 72) (pc := 65) d_Rp_onPreacceptOk_65 (by decide) (fun g => ?_) (fun g => ?_)
      · replace h := h.1 g
        refine ex_iconst (w := 0) (pc := 72) d_Rp_onPreacceptOk_72 (by decide) ?_
        refine ex_istore (ls2 := [_, _, _, _, _, _]) (pc := 73) d_Rp_onPreacceptOk_73 (Nat.le_of_ble_eq_true rfl) rfl ?_
        refine ex_iload (pc := 75) d_Rp_onPreacceptOk_75 rfl ?_
        refine ex_if_eq (tgt := 106) (pc := 77) d_Rp_onPreacceptOk_77 (by decide) (fun _ => ?_) (fun g => absurd g (by decide))
        refine ex_iload (pc := 106) d_Rp_onPreacceptOk_106 rfl ?_
        refine ex_if_ne (tgt := 133) (pc := 108) d_Rp_onPreacceptOk_108 (by decide) (fun g => absurd g (by decide)) (fun _ => ?_)
        refine ex_aload_n (pc := 111) d_Rp_onPreacceptOk_111 rfl ?_
        refine ex_getI (pc := 112) d_Rp_onPreacceptOk_112 e9 rfl (by decide) k31 ?_
        refine ex_aload_n (pc := 115) d_Rp_onPreacceptOk_115 rfl ?_
        obtain ⟨k36, h⟩ := h
        refine ex_getI (pc := 116) d_Rp_onPreacceptOk_116 rfl rfl (by decide) k36 ?_
        refine ex_icmp_lt (tgt := 133) (pc := 119) d_Rp_onPreacceptOk_119 (by decide) (fun g => ?_) (fun g => ?_)
        · replace h := h.1 g
          exact ex_ret_v (pc := 133) d_Rp_onPreacceptOk_133 rfl h
        · replace h := h.2 g
          refine ex_aload_n (pc := 122) d_Rp_onPreacceptOk_122 rfl ?_
          refine ex_aload_n (pc := 123) d_Rp_onPreacceptOk_123 rfl ?_
          obtain ⟨k37, h⟩ := h
          refine ex_getI (pc := 124) d_Rp_onPreacceptOk_124 e6 rfl (by decide) k37 ?_
          refine ex_aload_n (pc := 127) d_Rp_onPreacceptOk_127 rfl ?_
          refine ex_aload (pc := 128) d_Rp_onPreacceptOk_128 rfl ?_
          refine ex_cVV (as := [_, _, _]) (st := []) (pc := 130) rfl rfl k36 rfl rfl rfl (Nat.le_of_ble_eq_true rfl) (EX.mono h fun r39 M38 h => ?_)
          obtain ⟨rfl, h⟩ := h
          refine ⟨rfl, ?_⟩
          exact ex_ret_v (pc := 133) d_Rp_onPreacceptOk_133 rfl h
      · replace h := h.2 g
        refine ex_iconst (w := 1) (pc := 68) d_Rp_onPreacceptOk_68 (by decide) ?_
        refine ex_goto (tgt := 73) (pc := 69) d_Rp_onPreacceptOk_69 (by decide) ?_
        refine ex_istore (ls2 := [_, _, _, _, _, _]) (pc := 73) d_Rp_onPreacceptOk_73 (Nat.le_of_ble_eq_true rfl) rfl ?_
        refine ex_iload (pc := 75) d_Rp_onPreacceptOk_75 rfl ?_
        refine ex_if_eq (tgt := 106) (pc := 77) d_Rp_onPreacceptOk_77 (by decide) (fun g => absurd g (by decide)) (fun _ => ?_)
        refine ex_aload_n (pc := 80) d_Rp_onPreacceptOk_80 rfl ?_
        refine ex_getI (pc := 81) d_Rp_onPreacceptOk_81 e9 rfl (by decide) k31 ?_
        refine ex_aload_n (pc := 84) d_Rp_onPreacceptOk_84 rfl ?_
        obtain ⟨k40, h⟩ := h
        refine ex_getI (pc := 85) d_Rp_onPreacceptOk_85 rfl rfl (by decide) k40 ?_
        refine ex_iconst (w := 2) (pc := 88) d_Rp_onPreacceptOk_88 (by decide) ?_
        refine ex_isub (pc := 89) d_Rp_onPreacceptOk_89 ?_
        refine ex_icmp_ne (tgt := 106) (pc := 90) d_Rp_onPreacceptOk_90 (by decide) (fun g => ?_) (fun g => ?_)
        · replace h := h.1 g
          refine ex_iload (pc := 106) d_Rp_onPreacceptOk_106 rfl ?_
          refine ex_if_ne (tgt := 133) (pc := 108) d_Rp_onPreacceptOk_108 (by decide) (fun _ => ?_) (fun g => absurd g (by decide))
          exact ex_ret_v (pc := 133) d_Rp_onPreacceptOk_133 rfl h
        · replace h := h.2 g
          refine ex_aload_n (pc := 93) d_Rp_onPreacceptOk_93 rfl ?_
          refine ex_aload_n (pc := 94) d_Rp_onPreacceptOk_94 rfl ?_
          obtain ⟨k41, h⟩ := h
          refine ex_getI (pc := 95) d_Rp_onPreacceptOk_95 e6 rfl (by decide) k41 ?_
          refine ex_aload (pc := 98) d_Rp_onPreacceptOk_98 rfl ?_
          refine ex_cVV (as := [_, _]) (st := []) (pc := 100) rfl rfl k40 rfl rfl rfl (Nat.le_of_ble_eq_true rfl) (EX.mono h fun r43 M42 h => ?_)
          obtain ⟨rfl, h⟩ := h
          refine ⟨rfl, ?_⟩
          refine ex_goto (tgt := 133) (pc := 103) d_Rp_onPreacceptOk_103 (by decide) ?_
          exact ex_ret_v (pc := 133) d_Rp_onPreacceptOk_133 rfl h
  · replace h := h.2 g
    exact ex_ret_v (pc := 11) d_Rp_onPreacceptOk_11 rfl h
theorem sg_Rp_onAccept_0 {h0 : Nat} {a1 : Option Nat} {a2 : Option Nat} {M : me_M} {Q : Option me_V → me_M → Prop} (h : ∃ q1, a1 = some q1 ∧ mKd M q1 = 10 ∧ ∃ q4, a2 = some q4 ∧ mKd M q4 = 4 ∧ (((mI M 1194 q4 0) ≤ (mI M 1580 q1 0)) → EX eL X_En_vote 0 [some (.inr (some q4)), some (.inl 2), some (.inr (mR M 1581 q1 0)), some (.inl (mI M 1580 q1 0))] [] M (fun r8 M7 => r8 = none ∧ mKd M7 h0 = 3 ∧ EX eL X_Rp_sendBack 0 [some (.inr (some h0)), some (.inr a1), some (.inl 3), some (.inr none), some (.inr none)] [] M7 (fun r11 M10 => r11 = none ∧ Q none M10))) ∧ ((¬ (mI M 1194 q4 0) ≤ (mI M 1580 q1 0)) → Q none M)) : EX eL X_Rp_onAccept 0 [some (.inr (some h0)), some (.inr a1), some (.inr a2)] [] M Q := by
  refine ex_aload_n (pc := 0) d_Rp_onAccept_0 rfl ?_
  obtain ⟨q1, e2, h⟩ := h
  obtain ⟨k3, h⟩ := h
  refine ex_getI (pc := 1) d_Rp_onAccept_1 e2 rfl (by decide) k3 ?_
  refine ex_aload_n (pc := 4) d_Rp_onAccept_4 rfl ?_
  obtain ⟨q4, e5, h⟩ := h
  obtain ⟨k6, h⟩ := h
  refine ex_getI (pc := 5) d_Rp_onAccept_5 e5 rfl (by decide) k6 ?_
  refine ex_icmp_ge (tgt := 12) (pc := 8) d_Rp_onAccept_8 (by decide) (fun g => ?_) (fun g => ?_)
  · replace h := h.1 g
    refine ex_aload_n (pc := 12) d_Rp_onAccept_12 rfl ?_
    refine ex_iconst (w := 2) (pc := 13) d_Rp_onAccept_13 (by decide) ?_
    refine ex_aload_n (pc := 14) d_Rp_onAccept_14 rfl ?_
    refine ex_getR (pc := 15) d_Rp_onAccept_15 e2 rfl k3 ?_
    refine ex_aload_n (pc := 18) d_Rp_onAccept_18 rfl ?_
    refine ex_getI (pc := 19) d_Rp_onAccept_19 e2 rfl (by decide) k3 ?_
    refine ex_cVV (as := [_, _, _]) (st := []) (pc := 22) e5 rfl k6 rfl rfl rfl (Nat.le_of_ble_eq_true rfl) (EX.mono h fun r8 M7 h => ?_)
    obtain ⟨rfl, h⟩ := h
    refine ⟨rfl, ?_⟩
    refine ex_aload_n (pc := 25) d_Rp_onAccept_25 rfl ?_
    refine ex_aload_n (pc := 26) d_Rp_onAccept_26 rfl ?_
    refine ex_iconst (w := 3) (pc := 27) d_Rp_onAccept_27 (by decide) ?_
    refine ex_null (pc := 28) d_Rp_onAccept_28 ?_
    refine ex_null (pc := 29) d_Rp_onAccept_29 ?_
    obtain ⟨k9, h⟩ := h
    refine ex_cVV (as := [_, _, _, _]) (st := []) (pc := 30) rfl rfl k9 rfl rfl rfl (Nat.le_of_ble_eq_true rfl) (EX.mono h fun r11 M10 h => ?_)
    obtain ⟨rfl, h⟩ := h
    refine ⟨rfl, ?_⟩
    exact ex_ret_v (pc := 33) d_Rp_onAccept_33 rfl h
  · replace h := h.2 g
    exact ex_ret_v (pc := 11) d_Rp_onAccept_11 rfl h
theorem sg_Rp_onAcceptOk_0 {h0 : Nat} {a1 : Option Nat} {M : me_M} {Q : Option me_V → me_M → Prop} (h : mKd M h0 = 3 ∧ EX eL X_Rp_liveAttempt 0 [some (.inr (some h0)), some (.inr a1), some (.inl 2), none, none] [] M (fun r3 M2 => ∃ a4, r3 = some (.inr a4) ∧ ((¬ a4 = none) → ∃ q5, a4 = some q5 ∧ mKd M2 q5 = 6 ∧ ∀ M8, M8 = mSetI M2 1324 q5 0 ((mI M2 1324 q5 0) + 1) → mKd M8 h0 = 3 ∧ ((¬ (mI M8 1324 q5 0) = (mI M8 1130 h0 0)) → Q none M8) ∧ (((mI M8 1324 q5 0) = (mI M8 1130 h0 0)) → ∃ q10, a1 = some q10 ∧ mKd M8 q10 = 10 ∧ ∃ q13, (mR M8 1132 h0 0) = some q13 ∧ mKd M8 q13 = 104 ∧ vp_in (mI M8 1579 q10 0) (mLn M8 q13) ∧ ∃ q17, (mR M8 104 q13 (mI M8 1579 q10 0).toNatClampNeg) = some q17 ∧ mKd M8 q17 = 4 ∧ EX eL X_Rp_commitHere 0 [some (.inr (some h0)), some (.inl (mI M8 1579 q10 0)), some (.inr (mR M8 1193 q17 0))] [] M8 (fun r21 M20 => r21 = none ∧ Q none M20))) ∧ ((a4 = none) → Q none M2))) : EX eL X_Rp_onAcceptOk 0 [some (.inr (some h0)), some (.inr a1), none] [] M Q := by
  refine ex_aload_n (pc := 0) d_Rp_onAcceptOk_0 rfl ?_
  refine ex_aload_n (pc := 1) d_Rp_onAcceptOk_1 rfl ?_
  refine ex_iconst (w := 2) (pc := 2) d_Rp_onAcceptOk_2 (by decide) ?_
  obtain ⟨k1, h⟩ := h
  refine ex_cVR (as := [_, _]) (st := []) (pc := 3) rfl rfl k1 rfl rfl rfl (Nat.le_of_ble_eq_true rfl) (EX.mono h fun r3 M2 h => ?_)
  obtain ⟨a4, rfl, h⟩ := h
  refine ⟨_, rfl, ?_⟩
  refine ex_astore_n (ls2 := [_, _, _]) (pc := 6) d_Rp_onAcceptOk_6 (Nat.le_of_ble_eq_true rfl) rfl ?_
  refine ex_aload_n (pc := 7) d_Rp_onAcceptOk_7 rfl ?_
  refine ex_ifnonnull (tgt := 12) (pc := 8) d_Rp_onAcceptOk_8 (by decide) (fun g => ?_) (fun g => ?_)
  · replace h := h.1 g
    refine ex_aload_n (pc := 12) d_Rp_onAcceptOk_12 rfl ?_
    refine ex_dup (pc := 13) d_Rp_onAcceptOk_13 ?_
    obtain ⟨q5, e6, h⟩ := h
    obtain ⟨k7, h⟩ := h
    refine ex_getI (pc := 14) d_Rp_onAcceptOk_14 e6 rfl (by decide) k7 ?_
    refine ex_iconst (w := 1) (pc := 17) d_Rp_onAcceptOk_17 (by decide) ?_
    refine ex_iadd (pc := 18) d_Rp_onAcceptOk_18 ?_
    refine ex_putI (pc := 19) d_Rp_onAcceptOk_19 e6 rfl k7 ?_
    replace h := h _ rfl
    refine ex_aload_n (pc := 22) d_Rp_onAcceptOk_22 rfl ?_
    refine ex_getI (pc := 23) d_Rp_onAcceptOk_23 e6 rfl (by decide) k7 ?_
    refine ex_aload_n (pc := 26) d_Rp_onAcceptOk_26 rfl ?_
    obtain ⟨k9, h⟩ := h
    refine ex_getI (pc := 27) d_Rp_onAcceptOk_27 rfl rfl (by decide) k9 ?_
    refine ex_icmp_ne (tgt := 53) (pc := 30) d_Rp_onAcceptOk_30 (by decide) (fun g => ?_) (fun g => ?_)
    · replace h := h.1 g
      exact ex_ret_v (pc := 53) d_Rp_onAcceptOk_53 rfl h
    · replace h := h.2 g
      refine ex_aload_n (pc := 33) d_Rp_onAcceptOk_33 rfl ?_
      refine ex_aload_n (pc := 34) d_Rp_onAcceptOk_34 rfl ?_
      obtain ⟨q10, e11, h⟩ := h
      obtain ⟨k12, h⟩ := h
      refine ex_getI (pc := 35) d_Rp_onAcceptOk_35 e11 rfl (by decide) k12 ?_
      refine ex_aload_n (pc := 38) d_Rp_onAcceptOk_38 rfl ?_
      refine ex_getR (pc := 39) d_Rp_onAcceptOk_39 rfl rfl k9 ?_
      refine ex_aload_n (pc := 42) d_Rp_onAcceptOk_42 rfl ?_
      refine ex_getI (pc := 43) d_Rp_onAcceptOk_43 e11 rfl (by decide) k12 ?_
      obtain ⟨q13, e14, h⟩ := h
      obtain ⟨k15, h⟩ := h
      obtain ⟨b16, h⟩ := h
      refine ex_aald (pc := 46) d_Rp_onAcceptOk_46 e14 k15 (by decide) b16 ?_
      obtain ⟨q17, e18, h⟩ := h
      obtain ⟨k19, h⟩ := h
      refine ex_getR (pc := 47) d_Rp_onAcceptOk_47 e18 rfl k19 ?_
      refine ex_cVV (as := [_, _]) (st := []) (pc := 50) rfl rfl k9 rfl rfl rfl (Nat.le_of_ble_eq_true rfl) (EX.mono h fun r21 M20 h => ?_)
      obtain ⟨rfl, h⟩ := h
      refine ⟨rfl, ?_⟩
      exact ex_ret_v (pc := 53) d_Rp_onAcceptOk_53 rfl h
  · replace h := h.2 g
    exact ex_ret_v (pc := 11) d_Rp_onAcceptOk_11 rfl h
theorem sg_Rp_onCommit_0 {h0 : Nat} {a1 : Option Nat} {a2 : Option Nat} {M : me_M} {Q : Option me_V → me_M → Prop} (h : ∃ q1, a2 = some q1 ∧ mKd M q1 = 4 ∧ EX eL X_En_isSettled 0 [some (.inr (some q1))] [] M (fun r5 M4 => ∃ x6, r5 = some (.inl x6) ∧ ((¬ x6 = 0) → Q none M4) ∧ ((x6 = 0) → ∃ q7, a1 = some q7 ∧ mKd M4 q7 = 10 ∧ mKd M4 q1 = 4 ∧ EX eL X_En_become 0 [some (.inr (some q1)), some (.inl 3), some (.inr (mR M4 1581 q7 0))] [] M4 (fun r12 M11 => r12 = none ∧ Q none M11)))) : EX eL X_Rp_onCommit 0 [some (.inr (some h0)), some (.inr a1), some (.inr a2)] [] M Q := by
  refine ex_aload_n (pc := 0) d_Rp_onCommit_0 rfl ?_
  obtain ⟨q1, e2, h⟩ := h
  obtain ⟨k3, h⟩ := h
  refine ex_cVI (as := []) (st := []) (pc := 1) e2 rfl k3 rfl rfl rfl (Nat.le_of_ble_eq_true rfl) (EX.mono h fun r5 M4 h => ?_)
  obtain ⟨x6, rfl, h⟩ := h
  refine ⟨_, rfl, ?_⟩
  refine ex_if_ne (tgt := 16) (pc := 4) d_Rp_onCommit_4 (by decide) (fun g => ?_) (fun g => ?_)
  · replace h := h.1 g
    exact ex_ret_v (pc := 16) d_Rp_onCommit_16 rfl h
  · replace h := h.2 g
    refine ex_aload_n (pc := 7) d_Rp_onCommit_7 rfl ?_
    refine ex_iconst (w := 3) (pc := 8) d_Rp_onCommit_8 (by decide) ?_
    refine ex_aload_n (pc := 9) d_Rp_onCommit_9 rfl ?_
    obtain ⟨q7, e8, h⟩ := h
    obtain ⟨k9, h⟩ := h
    refine ex_getR (pc := 10) d_Rp_onCommit_10 e8 rfl k9 ?_
    obtain ⟨k10, h⟩ := h
    refine ex_cVV (as := [_, _]) (st := []) (pc := 13) e2 rfl k10 rfl rfl rfl (Nat.le_of_ble_eq_true rfl) (EX.mono h fun r12 M11 h => ?_)
    obtain ⟨rfl, h⟩ := h
    refine ⟨rfl, ?_⟩
    exact ex_ret_v (pc := 16) d_Rp_onCommit_16 rfl h
theorem sg_Rt_init_0 {h0 : Nat} {v1 : Int32} {a2 : Option Nat} {M : me_M} {Q : Option me_V → me_M → Prop} (h : mKd M h0 = 9 ∧ ∀ M2, M2 = mSetI M 1512 h0 0 v1 → ∃ q3, a2 = some q3 ∧ mKd M2 q3 = 4 ∧ ∀ M6, M6 = mSetI M2 1513 h0 0 (mI M2 1192 q3 0) → ∀ M7, M7 = mSetR M6 1514 h0 0 (mR M6 1193 q3 0) → ∀ M8, M8 = mSetI M7 1515 h0 0 (mI M7 1195 q3 0) → Q none M8) : EX eL X_Rt_init 0 [some (.inr (some h0)), some (.inl v1), some (.inr a2)] [] M Q := by
  refine ex_aload_n (pc := 0) d_Rt_init_0 rfl ?_
  refine ex_obj (pc := 1) d_Rt_init_1 rfl (by decide) (Nat.le_of_ble_eq_true rfl) ?_
  refine ex_aload_n (pc := 4) d_Rt_init_4 rfl ?_
  refine ex_iload_n (pc := 5) d_Rt_init_5 rfl ?_
  obtain ⟨k1, h⟩ := h
  refine ex_putI (pc := 6) d_Rt_init_6 rfl rfl k1 ?_
  replace h := h _ rfl
  refine ex_aload_n (pc := 9) d_Rt_init_9 rfl ?_
  refine ex_aload_n (pc := 10) d_Rt_init_10 rfl ?_
  obtain ⟨q3, e4, h⟩ := h
  obtain ⟨k5, h⟩ := h
  refine ex_getI (pc := 11) d_Rt_init_11 e4 rfl (by decide) k5 ?_
  refine ex_putI (pc := 14) d_Rt_init_14 rfl rfl k1 ?_
  replace h := h _ rfl
  refine ex_aload_n (pc := 17) d_Rt_init_17 rfl ?_
  refine ex_aload_n (pc := 18) d_Rt_init_18 rfl ?_
  refine ex_getR (pc := 19) d_Rt_init_19 e4 rfl k5 ?_
  refine ex_putR (pc := 22) d_Rt_init_22 rfl rfl k1 ?_
  replace h := h _ rfl
  refine ex_aload_n (pc := 25) d_Rt_init_25 rfl ?_
  refine ex_aload_n (pc := 26) d_Rt_init_26 rfl ?_
  refine ex_getI (pc := 27) d_Rt_init_27 e4 rfl (by decide) k5 ?_
  refine ex_putI (pc := 30) d_Rt_init_30 rfl rfl k1 ?_
  replace h := h _ rfl
  exact ex_ret_v (pc := 33) d_Rt_init_33 rfl h
theorem sg_Rp_onPrepare_0 {h0 : Nat} {a1 : Option Nat} {a2 : Option Nat} {M : me_M} {Q : Option me_V → me_M → Prop} (h : ∃ q1, a1 = some q1 ∧ mKd M q1 = 10 ∧ ∃ q4, a2 = some q4 ∧ mKd M q4 = 4 ∧ (((mI M 1194 q4 0) < (mI M 1580 q1 0)) → ∀ M7, M7 = mSetI M 1194 q4 0 (mI M 1580 q1 0) → ∀ q9 M8, q9 = mSz M7 → M8 = mNew M7 9 0 4 → mKd M8 h0 = 3 ∧ EX eL X_Rt_init 0 [some (.inr (some q9)), some (.inl (mI M8 1128 h0 0)), some (.inr a2)] [] M8 (fun r13 M12 => r13 = none ∧ mKd M12 h0 = 3 ∧ EX eL X_Rp_sendBack 0 [some (.inr (some h0)), some (.inr a1), some (.inl 6), some (.inr none), some (.inr (some q9))] [] M12 (fun r16 M15 => r16 = none ∧ Q none M15))) ∧ ((¬ (mI M 1194 q4 0) < (mI M 1580 q1 0)) → Q none M)) : EX eL X_Rp_onPrepare 0 [some (.inr (some h0)), some (.inr a1), some (.inr a2)] [] M Q := by
  refine ex_aload_n (pc := 0) d_Rp_onPrepare_0 rfl ?_
  obtain ⟨q1, e2, h⟩ := h
  obtain ⟨k3, h⟩ := h
  refine ex_getI (pc := 1) d_Rp_onPrepare_1 e2 rfl (by decide) k3 ?_
  refine ex_aload_n (pc := 4) d_Rp_onPrepare_4 rfl ?_
  obtain ⟨q4, e5, h⟩ := h
  obtain ⟨k6, h⟩ := h
  refine ex_getI (pc := 5) d_Rp_onPrepare_5 e5 rfl (by decide) k6 ?_
  refine ex_icmp_gt (tgt := 12) (pc := 8) d_Rp_onPrepare_8 (by decide) (fun g => ?_) (fun g => ?_)
  · replace h := h.1 g
    refine ex_aload_n (pc := 12) d_Rp_onPrepare_12 rfl ?_
    refine ex_aload_n (pc := 13) d_Rp_onPrepare_13 rfl ?_
    refine ex_getI (pc := 14) d_Rp_onPrepare_14 e2 rfl (by decide) k3 ?_
    refine ex_putI (pc := 17) d_Rp_onPrepare_17 e5 rfl k6 ?_
    replace h := h _ rfl
    refine ex_aload_n (pc := 20) d_Rp_onPrepare_20 rfl ?_
    refine ex_aload_n (pc := 21) d_Rp_onPrepare_21 rfl ?_
    refine ex_bipush (w := 6) (pc := 22) d_Rp_onPrepare_22 (by decide) ?_
    refine ex_null (pc := 24) d_Rp_onPrepare_24 ?_
    refine ex_new (ci := 8) (n := 4) (pc := 25) d_Rp_onPrepare_25 rfl (fun k10 => ?_)
    replace h := h _ _ rfl rfl
    refine ex_dup (pc := 28) d_Rp_onPrepare_28 ?_
    refine ex_aload_n (pc := 29) d_Rp_onPrepare_29 rfl ?_
    obtain ⟨k11, h⟩ := h
    refine ex_getI (pc := 30) d_Rp_onPrepare_30 rfl rfl (by decide) k11 ?_
    refine ex_aload_n (pc := 33) d_Rp_onPrepare_33 rfl ?_
    refine ex_cVV (as := [_, _]) (st := [_, _, _, _, _]) (pc := 34) rfl rfl k10 rfl rfl rfl (Nat.le_of_ble_eq_true rfl) (EX.mono h fun r13 M12 h => ?_)
    obtain ⟨rfl, h⟩ := h
    refine ⟨rfl, ?_⟩
    obtain ⟨k14, h⟩ := h
    refine ex_cVV (as := [_, _, _, _]) (st := []) (pc := 37) rfl rfl k14 rfl rfl rfl (Nat.le_of_ble_eq_true rfl) (EX.mono h fun r16 M15 h => ?_)
    obtain ⟨rfl, h⟩ := h
    refine ⟨rfl, ?_⟩
    exact ex_ret_v (pc := 40) d_Rp_onPrepare_40 rfl h
  · replace h := h.2 g
    exact ex_ret_v (pc := 11) d_Rp_onPrepare_11 rfl h
theorem sg_At_countReport_0 {h0 : Nat} {a1 : Option Nat} {M : me_M} {Q : Option me_V → me_M → Prop} (h : mKd M h0 = 6 ∧ ∃ q2, (mR M 1322 h0 0) = some q2 ∧ mKd M q2 = 106 ∧ (((Int32.ofNat (mLn M q2)) ≤ (mI M 1324 h0 0)) → Q none M) ∧ ((¬ (Int32.ofNat (mLn M q2)) ≤ (mI M 1324 h0 0)) → vp_in (mI M 1324 h0 0) (mLn M q2) ∧ ∃ q7, a1 = some q7 ∧ mKd M q7 = 9 ∧ ∀ M6, M6 = mSetR M 106 q2 (mI M 1324 h0 0).toNatClampNeg (some q7) → ∀ M10, M10 = mSetI M6 1324 h0 0 ((mI M6 1324 h0 0) + 1) → Q none M10)) : EX eL X_At_countReport 0 [some (.inr (some h0)), some (.inr a1)] [] M Q := by
  refine ex_aload_n (pc := 0) d_At_countReport_0 rfl ?_
  obtain ⟨k1, h⟩ := h
  refine ex_getI (pc := 1) d_At_countReport_1 rfl rfl (by decide) k1 ?_
  refine ex_aload_n (pc := 4) d_At_countReport_4 rfl ?_
  refine ex_getR (pc := 5) d_At_countReport_5 rfl rfl k1 ?_
  obtain ⟨q2, e3, h⟩ := h
  obtain ⟨k4, h⟩ := h
  refine ex_alen (pc := 8) d_At_countReport_8 e3 (me_100 k4 (by decide)) ?_
  refine ex_icmp_ge (tgt := 32) (pc := 9) d_At_countReport_9 (by decide) (fun g => ?_) (fun g => ?_)
  · replace h := h.1 g
    exact ex_ret_v (pc := 32) d_At_countReport_32 rfl h
  · replace h := h.2 g
    refine ex_aload_n (pc := 12) d_At_countReport_12 rfl ?_
    refine ex_getR (pc := 13) d_At_countReport_13 rfl rfl k1 ?_
    refine ex_aload_n (pc := 16) d_At_countReport_16 rfl ?_
    refine ex_getI (pc := 17) d_At_countReport_17 rfl rfl (by decide) k1 ?_
    refine ex_aload_n (pc := 20) d_At_countReport_20 rfl ?_
    obtain ⟨b5, h⟩ := h
    obtain ⟨q7, e8, h⟩ := h
    obtain ⟨k9, h⟩ := h
    refine ex_aast (pc := 21) d_At_countReport_21 e3 k4 (by decide) b5 e8 k9 ?_
    replace h := h _ rfl
    refine ex_aload_n (pc := 22) d_At_countReport_22 rfl ?_
    refine ex_dup (pc := 23) d_At_countReport_23 ?_
    refine ex_getI (pc := 24) d_At_countReport_24 rfl rfl (by decide) k1 ?_
    refine ex_iconst (w := 1) (pc := 27) d_At_countReport_27 (by decide) ?_
    refine ex_iadd (pc := 28) d_At_countReport_28 ?_
    refine ex_putI (pc := 29) d_At_countReport_29 rfl rfl k1 ?_
    replace h := h _ rfl
    exact ex_ret_v (pc := 32) d_At_countReport_32 rfl h
theorem sg_At_lastAccepted_0 {h0 : Nat} {M : me_M} {Q : Option me_V → me_M → Prop} (h : EX eL X_At_lastAccepted 4 [some (.inr (some h0)), some (.inr none), some (.inl 0), none] [] M Q) : EX eL X_At_lastAccepted 0 [some (.inr (some h0)), none, none, none] [] M Q := by
  refine ex_null (pc := 0) d_At_lastAccepted_0 ?_
  refine ex_astore_n (ls2 := [_, _, _, _]) (pc := 1) d_At_lastAccepted_1 (Nat.le_of_ble_eq_true rfl) rfl ?_
  refine ex_iconst (w := 0) (pc := 2) d_At_lastAccepted_2 (by decide) ?_
  refine ex_istore_n (ls2 := [_, _, _, _]) (pc := 3) d_At_lastAccepted_3 (Nat.le_of_ble_eq_true rfl) rfl ?_
  exact h
theorem sg_At_lastAccepted_4 {h0 : Nat} {a1 : Option Nat} {v2 : Int32} {M : me_M} {Q : Option me_V → me_M → Prop} (h : mKd M h0 = 6 ∧ (((mI M 1324 h0 0) ≤ v2) → Q (some (.inr a1)) M) ∧ ((¬ (mI M 1324 h0 0) ≤ v2) → ∃ q2, (mR M 1322 h0 0) = some q2 ∧ mKd M q2 = 106 ∧ vp_in v2 (mLn M q2) ∧ ∃ q6, (mR M 106 q2 v2.toNatClampNeg) = some q6 ∧ mKd M q6 = 9 ∧ ((¬ (mI M 1513 q6 0) = 2) → ∀ x9, x9 = v2 + Int32.ofInt 1 → EX eL X_At_lastAccepted 4 [some (.inr (some h0)), some (.inr a1), some (.inl x9), none] [] M Q) ∧ (((mI M 1513 q6 0) = 2) → ((a1 = none) → ∀ x10, x10 = v2 + Int32.ofInt 1 → EX eL X_At_lastAccepted 4 [some (.inr (some h0)), some (.inr (mR M 106 q2 v2.toNatClampNeg)), some (.inl x10), none] [] M Q) ∧ ((¬ a1 = none) → ∃ q11, a1 = some q11 ∧ mKd M q11 = 9 ∧ (((mI M 1515 q6 0) ≤ (mI M 1515 q11 0)) → ∀ x14, x14 = v2 + Int32.ofInt 1 → EX eL X_At_lastAccepted 4 [some (.inr (some h0)), some (.inr a1), some (.inl x14), none] [] M Q) ∧ ((¬ (mI M 1515 q6 0) ≤ (mI M 1515 q11 0)) → ∀ x15, x15 = v2 + Int32.ofInt 1 → EX eL X_At_lastAccepted 4 [some (.inr (some h0)), some (.inr (mR M 106 q2 v2.toNatClampNeg)), some (.inl x15), none] [] M Q))))) : EX eL X_At_lastAccepted 4 [some (.inr (some h0)), some (.inr a1), some (.inl v2), none] [] M Q := by
  refine ex_iload_n (pc := 4) d_At_lastAccepted_4 rfl ?_
  refine ex_aload_n (pc := 5) d_At_lastAccepted_5 rfl ?_
  obtain ⟨k1, h⟩ := h
  refine ex_getI (pc := 6) d_At_lastAccepted_6 rfl rfl (by decide) k1 ?_
  refine ex_icmp_ge (tgt := 50) (pc := 9) d_At_lastAccepted_9 (by decide) (fun g => ?_) (fun g => ?_)
  · replace h := h.1 g
    refine ex_aload_n (pc := 50) d_At_lastAccepted_50 rfl ?_
    exact ex_ret_a (pc := 51) d_At_lastAccepted_51 rfl h
  · replace h := h.2 g
    refine ex_aload_n (pc := 12) d_At_lastAccepted_12 rfl ?_
    refine ex_getR (pc := 13) d_At_lastAccepted_13 rfl rfl k1 ?_
    refine ex_iload_n (pc := 16) d_At_lastAccepted_16 rfl ?_
    obtain ⟨q2, e3, h⟩ := h
    obtain ⟨k4, h⟩ := h
    obtain ⟨b5, h⟩ := h
    refine ex_aald (pc := 17) d_At_lastAccepted_17 e3 k4 (by decide) b5 ?_
    refine ex_astore_n (ls2 := [_, _, _, _]) (pc := 18) d_At_lastAccepted_18 (Nat.le_of_ble_eq_true rfl) rfl ?_
    refine ex_aload_n (pc := 19) d_At_lastAccepted_19 rfl ?_
    obtain ⟨q6, e7, h⟩ := h
    obtain ⟨k8, h⟩ := h
    refine ex_getI (pc := 20) d_At_lastAccepted_20 e7 rfl (by decide) k8 ?_
    refine ex_iconst (w := 2) (pc := 23) d_At_lastAccepted_23 (by decide) ?_
    refine ex_icmp_ne (tgt := 44) (pc := 24) d_At_lastAccepted_24 (by decide) (fun g => ?_) (fun g => ?_)
    · replace h := h.1 g
      refine ex_iinc (ls2 := [_, _, _, _]) (pc := 44) d_At_lastAccepted_44 rfl rfl ?_
      replace h := h _ rfl
      refine ex_goto (tgt := 4) (pc := 47) d_At_lastAccepted_47 (by decide) ?_
      refine ex_drop (k := 3) (ls2 := [_, _, _, _]) rfl ?_
      exact h
    · replace h := h.2 g
      refine ex_aload_n (pc := 27) d_At_lastAccepted_27 rfl ?_
      refine ex_ifnull (tgt := 42) (pc := 28) d_At_lastAccepted_28 (by decide) (fun g => ?_) (fun g => ?_)
      · replace h := h.1 g
        refine ex_aload_n (pc := 42) d_At_lastAccepted_42 rfl ?_
        refine ex_astore_n (ls2 := [_, _, _, _]) (pc := 43) d_At_lastAccepted_43 (Nat.le_of_ble_eq_true rfl) rfl ?_
        refine ex_iinc (ls2 := [_, _, _, _]) (pc := 44) d_At_lastAccepted_44 rfl rfl ?_
        replace h := h _ rfl
        refine ex_goto (tgt := 4) (pc := 47) d_At_lastAccepted_47 (by decide) ?_
        refine ex_drop (k := 3) (ls2 := [_, _, _, _]) rfl ?_
        exact h
      · replace h := h.2 g
        refine ex_aload_n (pc := 31) d_At_lastAccepted_31 rfl ?_
        refine ex_getI (pc := 32) d_At_lastAccepted_32 e7 rfl (by decide) k8 ?_
        refine ex_aload_n (pc := 35) d_At_lastAccepted_35 rfl ?_
        obtain ⟨q11, e12, h⟩ := h
        obtain ⟨k13, h⟩ := h
        refine ex_getI (pc := 36) d_At_lastAccepted_36 e12 rfl (by decide) k13 ?_
        refine ex_icmp_le (tgt := 44) (pc := 39) d_At_lastAccepted_39 (by decide) (fun g => ?_) (fun g => ?_)
        · replace h := h.1 g
          refine ex_iinc (ls2 := [_, _, _, _]) (pc := 44) d_At_lastAccepted_44 rfl rfl ?_
          replace h := h _ rfl
          refine ex_goto (tgt := 4) (pc := 47) d_At_lastAccepted_47 (by decide) ?_
          refine ex_drop (k := 3) (ls2 := [_, _, _, _]) rfl ?_
          exact h
        · replace h := h.2 g
          refine ex_aload_n (pc := 42) d_At_lastAccepted_42 rfl ?_
          refine ex_astore_n (ls2 := [_, _, _, _]) (pc := 43) d_At_lastAccepted_43 (Nat.le_of_ble_eq_true rfl) rfl ?_
          refine ex_iinc (ls2 := [_, _, _, _]) (pc := 44) d_At_lastAccepted_44 rfl rfl ?_
          replace h := h _ rfl
          refine ex_goto (tgt := 4) (pc := 47) d_At_lastAccepted_47 (by decide) ?_
          refine ex_drop (k := 3) (ls2 := [_, _, _, _]) rfl ?_
          exact h
theorem sg_Rt_isFastVote_0 {h0 : Nat} {v1 : Int32} {M : me_M} {Q : Option me_V → me_M → Prop} (h : mKd M h0 = 9 ∧ ((¬ (mI M 1513 h0 0) = 1) → Q (some (.inl 0)) M) ∧ (((mI M 1513 h0 0) = 1) → ((¬ (mI M 1515 h0 0) = 0) → Q (some (.inl 0)) M) ∧ (((mI M 1515 h0 0) = 0) → (((mI M 1512 h0 0) = v1) → Q (some (.inl 0)) M) ∧ ((¬ (mI M 1512 h0 0) = v1) → Q (some (.inl 1)) M)))) : EX eL X_Rt_isFastVote 0 [some (.inr (some h0)), some (.inl v1)] [] M Q := by
  refine ex_aload_n (pc := 0) d_Rt_isFastVote_0 rfl ?_
  obtain ⟨k1, h⟩ := h
  refine ex_getI (pc := 1) d_Rt_isFastVote_1 rfl rfl (by decide) k1 ?_
  refine ex_iconst (w := 1) (pc := 4) d_Rt_isFastVote_4 (by decide) ?_
  refine ex_icmp_ne (tgt := 27) (pc := 5) d_Rt_isFastVote_5 (by decide) (fun g => ?_) (fun g => ?_)
  · replace h := h.1 g
    refine ex_iconst (w := 0) (pc := 27) d_Rt_isFastVote_27 (by decide) ?_
    exact ex_ret_z (pc := 28) d_Rt_isFastVote_28 rfl (Or.inl rfl) h
  · replace h := h.2 g
    refine ex_aload_n (pc := 8) d_Rt_isFastVote_8 rfl ?_
    refine ex_getI (pc := 9) d_Rt_isFastVote_9 rfl rfl (by decide) k1 ?_
    refine ex_if_ne (tgt := 27) (pc := 12) d_Rt_isFastVote_12 (by decide) (fun g => ?_) (fun g => ?_)
    · replace h := h.1 g
      refine ex_iconst (w := 0) (pc := 27) d_Rt_isFastVote_27 (by decide) ?_
      exact ex_ret_z (pc := 28) d_Rt_isFastVote_28 rfl (Or.inl rfl) h
    · replace h := h.2 g
      refine ex_aload_n (pc := 15) d_Rt_isFastVote_15 rfl ?_
      refine ex_getI (pc := 16) d_Rt_isFastVote_16 rfl rfl (by decide) k1 ?_
      refine ex_iload_n (pc := 19) d_Rt_isFastVote_19 rfl ?_
      refine ex_icmp_eq (tgt := 27) (pc := 20) d_Rt_isFastVote_20 (by decide) (fun g => ?_) (fun g => ?_)
      · replace h := h.1 g
        refine ex_iconst (w := 0) (pc := 27) d_Rt_isFastVote_27 (by decide) ?_
        exact ex_ret_z (pc := 28) d_Rt_isFastVote_28 rfl (Or.inl rfl) h
      · replace h := h.2 g
        refine ex_iconst (w := 1) (pc := 23) d_Rt_isFastVote_23 (by decide) ?_
        refine ex_goto (tgt := 28) (pc := 24) d_Rt_isFastVote_24 (by decide) ?_
        exact ex_ret_z (pc := 28) d_Rt_isFastVote_28 rfl (Or.inr rfl) h
theorem sg_Or_agreesWith_0 {h0 : Nat} {a1 : Option Nat} {M : me_M} {Q : Option me_V → me_M → Prop} (h : mKd M h0 = 8 ∧ ∃ q2, a1 = some q2 ∧ mKd M q2 = 8 ∧ ((¬ (mI M 1449 h0 0) = (mI M 1449 q2 0)) → Q (some (.inl 0)) M) ∧ (((mI M 1449 h0 0) = (mI M 1449 q2 0)) → ((¬ (mI M 1450 h0 0) = (mI M 1450 q2 0)) → Q (some (.inl 0)) M) ∧ (((mI M 1450 h0 0) = (mI M 1450 q2 0)) → Q (some (.inl 1)) M))) : EX eL X_Or_agreesWith 0 [some (.inr (some h0)), some (.inr a1)] [] M Q := by
  refine ex_aload_n (pc := 0) d_Or_agreesWith_0 rfl ?_
  obtain ⟨k1, h⟩ := h
  refine ex_getI (pc := 1) d_Or_agreesWith_1 rfl rfl (by decide) k1 ?_
  refine ex_aload_n (pc := 4) d_Or_agreesWith_4 rfl ?_
  obtain ⟨q2, e3, h⟩ := h
  obtain ⟨k4, h⟩ := h
  refine ex_getI (pc := 5) d_Or_agreesWith_5 e3 rfl (by decide) k4 ?_
  refine ex_icmp_ne (tgt := 26) (pc := 8) d_Or_agreesWith_8 (by decide) (fun g => ?_) (fun g => ?_)
  · replace h := h.1 g
    refine ex_iconst (w := 0) (pc := 26) d_Or_agreesWith_26 (by decide) ?_
    exact ex_ret_z (pc := 27) d_Or_agreesWith_27 rfl (Or.inl rfl) h
  · replace h := h.2 g
    refine ex_aload_n (pc := 11) d_Or_agreesWith_11 rfl ?_
    refine ex_getI (pc := 12) d_Or_agreesWith_12 rfl rfl (by decide) k1 ?_
    refine ex_aload_n (pc := 15) d_Or_agreesWith_15 rfl ?_
    refine ex_getI (pc := 16) d_Or_agreesWith_16 e3 rfl (by decide) k4 ?_
    refine ex_icmp_ne (tgt := 26) (pc := 19) d_Or_agreesWith_19 (by decide) (fun g => ?_) (fun g => ?_)
    · replace h := h.1 g
      refine ex_iconst (w := 0) (pc := 26) d_Or_agreesWith_26 (by decide) ?_
      exact ex_ret_z (pc := 27) d_Or_agreesWith_27 rfl (Or.inl rfl) h
    · replace h := h.2 g
      refine ex_iconst (w := 1) (pc := 22) d_Or_agreesWith_22 (by decide) ?_
      refine ex_goto (tgt := 27) (pc := 23) d_Or_agreesWith_23 (by decide) ?_
      exact ex_ret_z (pc := 27) d_Or_agreesWith_27 rfl (Or.inr rfl) h
theorem sg_At_countSharers_0 {h0 : Nat} {a1 : Option Nat} {v2 : Int32} {M : me_M} {Q : Option me_V → me_M → Prop} (h : EX eL X_At_countSharers 5 [some (.inr (some h0)), some (.inr a1), some (.inl v2), some (.inl 0), some (.inl 0)] [] M Q) : EX eL X_At_countSharers 0 [some (.inr (some h0)), some (.inr a1), some (.inl v2), none, none] [] M Q := by
  refine ex_iconst (w := 0) (pc := 0) d_At_countSharers_0 (by decide) ?_
  refine ex_istore_n (ls2 := [_, _, _, _, _]) (pc := 1) d_At_countSharers_1 (Nat.le_of_ble_eq_true rfl) rfl ?_
  refine ex_iconst (w := 0) (pc := 2) d_At_countSharers_2 (by decide) ?_
  refine ex_istore (ls2 := [_, _, _, _, _]) (pc := 3) d_At_countSharers_3 (Nat.le_of_ble_eq_true rfl) rfl ?_
  exact h
theorem sg_At_countSharers_5 {h0 : Nat} {a1 : Option Nat} {v2 : Int32} {v3 : Int32} {v4 : Int32} {M : me_M} {Q : Option me_V → me_M → Prop} (h : mKd M h0 = 6 ∧ (((mI M 1324 h0 0) ≤ v4) → Q (some (.inl v3)) M) ∧ ((¬ (mI M 1324 h0 0) ≤ v4) → ∃ q2, (mR M 1322 h0 0) = some q2 ∧ mKd M q2 = 106 ∧ vp_in v4 (mLn M q2) ∧ ∃ q6, (mR M 106 q2 v4.toNatClampNeg) = some q6 ∧ mKd M q6 = 9 ∧ EX eL X_Rt_isFastVote 0 [some (.inr (some q6)), some (.inl v2)] [] M (fun r10 M9 => ∃ x11, r10 = some (.inl x11) ∧ ((x11 = 0) → ∀ x12, x12 = v4 + Int32.ofInt 1 → EX eL X_At_countSharers 5 [some (.inr (some h0)), some (.inr a1), some (.inl v2), some (.inl v3), some (.inl x12)] [] M9 Q) ∧ ((¬ x11 = 0) → mKd M9 h0 = 6 ∧ ∃ q14, (mR M9 1322 h0 0) = some q14 ∧ mKd M9 q14 = 106 ∧ vp_in v4 (mLn M9 q14) ∧ ∃ q18, (mR M9 106 q14 v4.toNatClampNeg) = some q18 ∧ mKd M9 q18 = 9 ∧ ∃ q21, (mR M9 1514 q18 0) = some q21 ∧ mKd M9 q21 = 8 ∧ EX eL X_Or_agreesWith 0 [some (.inr (some q21)), some (.inr a1)] [] M9 (fun r25 M24 => ∃ x26, r25 = some (.inl x26) ∧ ((x26 = 0) → ∀ x27, x27 = v4 + Int32.ofInt 1 → EX eL X_At_countSharers 5 [some (.inr (some h0)), some (.inr a1), some (.inl v2), some (.inl v3), some (.inl x27)] [] M24 Q) ∧ ((¬ x26 = 0) → ∀ x28, x28 = v3 + Int32.ofInt 1 → ∀ x29, x29 = v4 + Int32.ofInt 1 → EX eL X_At_countSharers 5 [some (.inr (some h0)), some (.inr a1), some (.inl v2), some (.inl x28), some (.inl x29)] [] M24 Q)))))) : EX eL X_At_countSharers 5 [some (.inr (some h0)), some (.inr a1), some (.inl v2), some (.inl v3), some (.inl v4)] [] M Q := by
  refine ex_iload (pc := 5) d_At_countSharers_5 rfl ?_
  refine ex_aload_n (pc := 7) d_At_countSharers_7 rfl ?_
  obtain ⟨k1, h⟩ := h
  refine ex_getI (pc := 8) d_At_countSharers_8 rfl rfl (by decide) k1 ?_
  refine ex_icmp_ge (tgt := 54) (pc := 11) d_At_countSharers_11 (by decide) (fun g => ?_) (fun g => ?_)
  · replace h := h.1 g
    refine ex_iload_n (pc := 54) d_At_countSharers_54 rfl ?_
    exact ex_ret_i (pc := 55) d_At_countSharers_55 rfl h
  · replace h := h.2 g
    refine ex_aload_n (pc := 14) d_At_countSharers_14 rfl ?_
    refine ex_getR (pc := 15) d_At_countSharers_15 rfl rfl k1 ?_
    refine ex_iload (pc := 18) d_At_countSharers_18 rfl ?_
    obtain ⟨q2, e3, h⟩ := h
    obtain ⟨k4, h⟩ := h
    obtain ⟨b5, h⟩ := h
    refine ex_aald (pc := 20) d_At_countSharers_20 e3 k4 (by decide) b5 ?_
    refine ex_iload_n (pc := 21) d_At_countSharers_21 rfl ?_
    obtain ⟨q6, e7, h⟩ := h
    obtain ⟨k8, h⟩ := h
    refine ex_cVI (as := [_]) (st := []) (pc := 22) e7 rfl k8 rfl rfl rfl (Nat.le_of_ble_eq_true rfl) (EX.mono h fun r10 M9 h => ?_)
    obtain ⟨x11, rfl, h⟩ := h
    refine ⟨_, rfl, ?_⟩
    refine ex_if_eq (tgt := 48) (pc := 25) d_At_countSharers_25 (by decide) (fun g => ?_) (fun g => ?_)
    · replace h := h.1 g
      refine ex_iinc (ls2 := [_, _, _, _, _]) (pc := 48) d_At_countSharers_48 rfl rfl ?_
      replace h := h _ rfl
      refine ex_goto (tgt := 5) (pc := 51) d_At_countSharers_51 (by decide) ?_
      exact h
    · replace h := h.2 g
      refine ex_aload_n (pc := 28) d_At_countSharers_28 rfl ?_
      obtain ⟨k13, h⟩ := h
      refine ex_getR (pc := 29) d_At_countSharers_29 rfl rfl k13 ?_
      refine ex_iload (pc := 32) d_At_countSharers_32 rfl ?_
      obtain ⟨q14, e15, h⟩ := h
      obtain ⟨k16, h⟩ := h
      obtain ⟨b17, h⟩ := h
      refine ex_aald (pc := 34) d_At_countSharers_34 e15 k16 (by decide) b17 ?_
      obtain ⟨q18, e19, h⟩ := h
      obtain ⟨k20, h⟩ := h
      refine ex_getR (pc := 35) d_At_countSharers_35 e19 rfl k20 ?_
      refine ex_aload_n (pc := 38) d_At_countSharers_38 rfl ?_
      obtain ⟨q21, e22, h⟩ := h
      obtain ⟨k23, h⟩ := h
      refine ex_cVI (as := [_]) (st := []) (pc := 39) e22 rfl k23 rfl rfl rfl (Nat.le_of_ble_eq_true rfl) (EX.mono h fun r25 M24 h => ?_)
      obtain ⟨x26, rfl, h⟩ := h
      refine ⟨_, rfl, ?_⟩
      refine ex_if_eq (tgt := 48) (pc := 42) d_At_countSharers_42 (by decide) (fun g => ?_) (fun g => ?_)
      · replace h := h.1 g
        refine ex_iinc (ls2 := [_, _, _, _, _]) (pc := 48) d_At_countSharers_48 rfl rfl ?_
        replace h := h _ rfl
        refine ex_goto (tgt := 5) (pc := 51) d_At_countSharers_51 (by decide) ?_
        exact h
      · replace h := h.2 g
        refine ex_iinc (ls2 := [_, _, _, _, _]) (pc := 45) d_At_countSharers_45 rfl rfl ?_
        replace h := h _ rfl
        refine ex_iinc (ls2 := [_, _, _, _, _]) (pc := 48) d_At_countSharers_48 rfl rfl ?_
        replace h := h _ rfl
        refine ex_goto (tgt := 5) (pc := 51) d_At_countSharers_51 (by decide) ?_
        exact h
theorem sg_At_sharedFastVote_0 {h0 : Nat} {v1 : Int32} {v2 : Int32} {M : me_M} {Q : Option me_V → me_M → Prop} (h : EX eL X_At_sharedFastVote 2 [some (.inr (some h0)), some (.inl v1), some (.inl v2), some (.inl 0)] [] M Q) : EX eL X_At_sharedFastVote 0 [some (.inr (some h0)), some (.inl v1), some (.inl v2), none] [] M Q := by
  refine ex_iconst (w := 0) (pc := 0) d_At_sharedFastVote_0 (by decide) ?_
  refine ex_istore_n (ls2 := [_, _, _, _]) (pc := 1) d_At_sharedFastVote_1 (Nat.le_of_ble_eq_true rfl) rfl ?_
  exact h
theorem sg_At_sharedFastVote_2 {h0 : Nat} {v1 : Int32} {v2 : Int32} {v3 : Int32} {M : me_M} {Q : Option me_V → me_M → Prop} (h : mKd M h0 = 6 ∧ (((mI M 1324 h0 0) ≤ v3) → Q (some (.inr none)) M) ∧ ((¬ (mI M 1324 h0 0) ≤ v3) → ∃ q2, (mR M 1322 h0 0) = some q2 ∧ mKd M q2 = 106 ∧ vp_in v3 (mLn M q2) ∧ ∃ q6, (mR M 106 q2 v3.toNatClampNeg) = some q6 ∧ mKd M q6 = 9 ∧ EX eL X_Rt_isFastVote 0 [some (.inr (some q6)), some (.inl v1)] [] M (fun r10 M9 => ∃ x11, r10 = some (.inl x11) ∧ ((x11 = 0) → ∀ x12, x12 = v3 + Int32.ofInt 1 → EX eL X_At_sharedFastVote 2 [some (.inr (some h0)), some (.inl v1), some (.inl v2), some (.inl x12)] [] M9 Q) ∧ ((¬ x11 = 0) → mKd M9 h0 = 6 ∧ ∃ q14, (mR M9 1322 h0 0) = some q14 ∧ mKd M9 q14 = 106 ∧ vp_in v3 (mLn M9 q14) ∧ ∃ q18, (mR M9 106 q14 v3.toNatClampNeg) = some q18 ∧ mKd M9 q18 = 9 ∧ EX eL X_At_countSharers 0 [some (.inr (some h0)), some (.inr (mR M9 1514 q18 0)), some (.inl v1), none, none] [] M9 (fun r22 M21 => ∃ x23, r22 = some (.inl x23) ∧ ((x23 < v2) → ∀ x24, x24 = v3 + Int32.ofInt 1 → EX eL X_At_sharedFastVote 2 [some (.inr (some h0)), some (.inl v1), some (.inl v2), some (.inl x24)] [] M21 Q) ∧ ((¬ x23 < v2) → mKd M21 h0 = 6 ∧ ∃ q26, (mR M21 1322 h0 0) = some q26 ∧ mKd M21 q26 = 106 ∧ vp_in v3 (mLn M21 q26) ∧ Q (some (.inr (mR M21 106 q26 v3.toNatClampNeg))) M21)))))) : EX eL X_At_sharedFastVote 2 [some (.inr (some h0)), some (.inl v1), some (.inl v2), some (.inl v3)] [] M Q := by
  refine ex_iload_n (pc := 2) d_At_sharedFastVote_2 rfl ?_
  refine ex_aload_n (pc := 3) d_At_sharedFastVote_3 rfl ?_
  obtain ⟨k1, h⟩ := h
  refine ex_getI (pc := 4) d_At_sharedFastVote_4 rfl rfl (by decide) k1 ?_
  refine ex_icmp_ge (tgt := 54) (pc := 7) d_At_sharedFastVote_7 (by decide) (fun g => ?_) (fun g => ?_)
  · replace h := h.1 g
    refine ex_null (pc := 54) d_At_sharedFastVote_54 ?_
    exact ex_ret_a (pc := 55) d_At_sharedFastVote_55 rfl h
  · replace h := h.2 g
    refine ex_aload_n (pc := 10) d_At_sharedFastVote_10 rfl ?_
    refine ex_getR (pc := 11) d_At_sharedFastVote_11 rfl rfl k1 ?_
    refine ex_iload_n (pc := 14) d_At_sharedFastVote_14 rfl ?_
    obtain ⟨q2, e3, h⟩ := h
    obtain ⟨k4, h⟩ := h
    obtain ⟨b5, h⟩ := h
    refine ex_aald (pc := 15) d_At_sharedFastVote_15 e3 k4 (by decide) b5 ?_
    refine ex_iload_n (pc := 16) d_At_sharedFastVote_16 rfl ?_
    obtain ⟨q6, e7, h⟩ := h
    obtain ⟨k8, h⟩ := h
    refine ex_cVI (as := [_]) (st := []) (pc := 17) e7 rfl k8 rfl rfl rfl (Nat.le_of_ble_eq_true rfl) (EX.mono h fun r10 M9 h => ?_)
    obtain ⟨x11, rfl, h⟩ := h
    refine ⟨_, rfl, ?_⟩
    refine ex_if_eq (tgt := 48) (pc := 20) d_At_sharedFastVote_20 (by decide) (fun g => ?_) (fun g => ?_)
    · replace h := h.1 g
      refine ex_iinc (ls2 := [_, _, _, _]) (pc := 48) d_At_sharedFastVote_48 rfl rfl ?_
      replace h := h _ rfl
      refine ex_goto (tgt := 2) (pc := 51) d_At_sharedFastVote_51 (by decide) ?_
      exact h
    · replace h := h.2 g
      refine ex_aload_n (pc := 23) d_At_sharedFastVote_23 rfl ?_
      refine ex_aload_n (pc := 24) d_At_sharedFastVote_24 rfl ?_
      obtain ⟨k13, h⟩ := h
      refine ex_getR (pc := 25) d_At_sharedFastVote_25 rfl rfl k13 ?_
      refine ex_iload_n (pc := 28) d_At_sharedFastVote_28 rfl ?_
      obtain ⟨q14, e15, h⟩ := h
      obtain ⟨k16, h⟩ := h
      obtain ⟨b17, h⟩ := h
      refine ex_aald (pc := 29) d_At_sharedFastVote_29 e15 k16 (by decide) b17 ?_
      obtain ⟨q18, e19, h⟩ := h
      obtain ⟨k20, h⟩ := h
      refine ex_getR (pc := 30) d_At_sharedFastVote_30 e19 rfl k20 ?_
      refine ex_iload_n (pc := 33) d_At_sharedFastVote_33 rfl ?_
      refine ex_cVI (as := [_, _]) (st := []) (pc := 34) rfl rfl k13 rfl rfl rfl (Nat.le_of_ble_eq_true rfl) (EX.mono h fun r22 M21 h => ?_)
      obtain ⟨x23, rfl, h⟩ := h
      refine ⟨_, rfl, ?_⟩
      refine ex_iload_n (pc := 37) d_At_sharedFastVote_37 rfl ?_
      refine ex_icmp_lt (tgt := 48) (pc := 38) d_At_sharedFastVote_38 (by decide) (fun g => ?_) (fun g => ?_)
      · replace h := h.1 g
        refine ex_iinc (ls2 := [_, _, _, _]) (pc := 48) d_At_sharedFastVote_48 rfl rfl ?_
        replace h := h _ rfl
        refine ex_goto (tgt := 2) (pc := 51) d_At_sharedFastVote_51 (by decide) ?_
        exact h
      · replace h := h.2 g
        refine ex_aload_n (pc := 41) d_At_sharedFastVote_41 rfl ?_
        obtain ⟨k25, h⟩ := h
        refine ex_getR (pc := 42) d_At_sharedFastVote_42 rfl rfl k25 ?_
        refine ex_iload_n (pc := 45) d_At_sharedFastVote_45 rfl ?_
        obtain ⟨q26, e27, h⟩ := h
        obtain ⟨k28, h⟩ := h
        obtain ⟨b29, h⟩ := h
        refine ex_aald (pc := 46) d_At_sharedFastVote_46 e27 k28 (by decide) b29 ?_
        exact ex_ret_a (pc := 47) d_At_sharedFastVote_47 rfl h
theorem sg_At_firstPreaccepted_0 {h0 : Nat} {M : me_M} {Q : Option me_V → me_M → Prop} (h : EX eL X_At_firstPreaccepted 2 [some (.inr (some h0)), some (.inl 0)] [] M Q) : EX eL X_At_firstPreaccepted 0 [some (.inr (some h0)), none] [] M Q := by
  refine ex_iconst (w := 0) (pc := 0) d_At_firstPreaccepted_0 (by decide) ?_
  refine ex_istore_n (ls2 := [_, _]) (pc := 1) d_At_firstPreaccepted_1 (Nat.le_of_ble_eq_true rfl) rfl ?_
  exact h
theorem sg_At_firstPreaccepted_2 {h0 : Nat} {v1 : Int32} {M : me_M} {Q : Option me_V → me_M → Prop} (h : mKd M h0 = 6 ∧ (((mI M 1324 h0 0) ≤ v1) → Q (some (.inr none)) M) ∧ ((¬ (mI M 1324 h0 0) ≤ v1) → ∃ q2, (mR M 1322 h0 0) = some q2 ∧ mKd M q2 = 106 ∧ vp_in v1 (mLn M q2) ∧ ∃ q6, (mR M 106 q2 v1.toNatClampNeg) = some q6 ∧ mKd M q6 = 9 ∧ ((¬ (mI M 1513 q6 0) = 1) → ∀ x9, x9 = v1 + Int32.ofInt 1 → EX eL X_At_firstPreaccepted 2 [some (.inr (some h0)), some (.inl x9)] [] M Q) ∧ (((mI M 1513 q6 0) = 1) → vp_in v1 (mLn M q2) ∧ Q (some (.inr (mR M 106 q2 v1.toNatClampNeg))) M))) : EX eL X_At_firstPreaccepted 2 [some (.inr (some h0)), some (.inl v1)] [] M Q := by
  refine ex_iload_n (pc := 2) d_At_firstPreaccepted_2 rfl ?_
  refine ex_aload_n (pc := 3) d_At_firstPreaccepted_3 rfl ?_
  obtain ⟨k1, h⟩ := h
  refine ex_getI (pc := 4) d_At_firstPreaccepted_4 rfl rfl (by decide) k1 ?_
  refine ex_icmp_ge (tgt := 36) (pc := 7) d_At_firstPreaccepted_7 (by decide) (fun g => ?_) (fun g => ?_)
  · replace h := h.1 g
    refine ex_null (pc := 36) d_At_firstPreaccepted_36 ?_
    exact ex_ret_a (pc := 37) d_At_firstPreaccepted_37 rfl h
  · replace h := h.2 g
    refine ex_aload_n (pc := 10) d_At_firstPreaccepted_10 rfl ?_
    refine ex_getR (pc := 11) d_At_firstPreaccepted_11 rfl rfl k1 ?_
    refine ex_iload_n (pc := 14) d_At_firstPreaccepted_14 rfl ?_
    obtain ⟨q2, e3, h⟩ := h
    obtain ⟨k4, h⟩ := h
    obtain ⟨b5, h⟩ := h
    refine ex_aald (pc := 15) d_At_firstPreaccepted_15 e3 k4 (by decide) b5 ?_
    obtain ⟨q6, e7, h⟩ := h
    obtain ⟨k8, h⟩ := h
    refine ex_getI (pc := 16) d_At_firstPreaccepted_16 e7 rfl (by decide) k8 ?_
    refine ex_iconst (w := 1) (pc := 19) d_At_firstPreaccepted_19 (by decide) ?_
    refine ex_icmp_ne (tgt := 30) (pc := 20) d_At_firstPreaccepted_20 (by decide) (fun g => ?_) (fun g => ?_)
    · replace h := h.1 g
      refine ex_iinc (ls2 := [_, _]) (pc := 30) d_At_firstPreaccepted_30 rfl rfl ?_
      replace h := h _ rfl
      refine ex_goto (tgt := 2) (pc := 33) d_At_firstPreaccepted_33 (by decide) ?_
      exact h
    · replace h := h.2 g
      refine ex_aload_n (pc := 23) d_At_firstPreaccepted_23 rfl ?_
      refine ex_getR (pc := 24) d_At_firstPreaccepted_24 rfl rfl k1 ?_
      refine ex_iload_n (pc := 27) d_At_firstPreaccepted_27 rfl ?_
      obtain ⟨b10, h⟩ := h
      refine ex_aald (pc := 28) d_At_firstPreaccepted_28 e3 k4 (by decide) b10 ?_
      exact ex_ret_a (pc := 29) d_At_firstPreaccepted_29 rfl h
theorem sg_Rp_preacceptAgain_0 {h0 : Nat} {v1 : Int32} {a2 : Option Nat} {a3 : Option Nat} {M : me_M} {Q : Option me_V → me_M → Prop} (h : ∀ q2 M1, q2 = mSz M → M1 = mNew M 8 0 3 → EX eL X_Or_init 0 [some (.inr (some q2)), some (.inr a3), some (.inl 1), some (.inl 0)] [] M1 (fun r5 M4 => r5 = none ∧ mKd M4 h0 = 3 ∧ EX eL X_Rp_fitted 0 [some (.inr (some h0)), some (.inl v1), some (.inr (some q2)), none, none, none, none] [] M4 (fun r8 M7 => ∃ a9, r8 = some (.inr a9) ∧ mKd M7 h0 = 3 ∧ ∃ q11, (mR M7 1132 h0 0) = some q11 ∧ mKd M7 q11 = 104 ∧ vp_in v1 (mLn M7 q11) ∧ ∃ q15, a2 = some q15 ∧ mKd M7 q15 = 6 ∧ ∃ q18, (mR M7 104 q11 v1.toNatClampNeg) = some q18 ∧ mKd M7 q18 = 4 ∧ EX eL X_En_vote 0 [some (.inr (some q18)), some (.inl 1), some (.inr a9), some (.inl (mI M7 1320 q15 0))] [] M7 (fun r22 M21 => r22 = none ∧ mKd M21 q15 = 6 ∧ EX eL X_At_enterPhase 0 [some (.inr (some q15)), some (.inl 1)] [] M21 (fun r25 M24 => r25 = none ∧ mKd M24 q15 = 6 ∧ mKd M24 h0 = 3 ∧ EX eL X_Rp_sendToOthers 0 [some (.inr (some h0)), some (.inl 0), some (.inl v1), some (.inl (mI M24 1320 q15 0)), some (.inr a9), none] [] M24 (fun r29 M28 => r29 = none ∧ Q none M28)))))) : EX eL X_Rp_preacceptAgain 0 [some (.inr (some h0)), some (.inl v1), some (.inr a2), some (.inr a3), none] [] M Q := by
  refine ex_aload_n (pc := 0) d_Rp_preacceptAgain_0 rfl ?_
  refine ex_iload_n (pc := 1) d_Rp_preacceptAgain_1 rfl ?_
  refine ex_new (ci := 7) (n := 3) (pc := 2) d_Rp_preacceptAgain_2 rfl (fun k3 => ?_)
  replace h := h _ _ rfl rfl
  refine ex_dup (pc := 5) d_Rp_preacceptAgain_5 ?_
  refine ex_aload_n (pc := 6) d_Rp_preacceptAgain_6 rfl ?_
  refine ex_iconst (w := 1) (pc := 7) d_Rp_preacceptAgain_7 (by decide) ?_
  refine ex_iconst (w := 0) (pc := 8) d_Rp_preacceptAgain_8 (by decide) ?_
  refine ex_cVV (as := [_, _, _]) (st := [_, _, _]) (pc := 9) rfl rfl k3 rfl rfl rfl (Nat.le_of_ble_eq_true rfl) (EX.mono h fun r5 M4 h => ?_)
  obtain ⟨rfl, h⟩ := h
  refine ⟨rfl, ?_⟩
  obtain ⟨k6, h⟩ := h
  refine ex_cVR (as := [_, _]) (st := []) (pc := 12) rfl rfl k6 rfl rfl rfl (Nat.le_of_ble_eq_true rfl) (EX.mono h fun r8 M7 h => ?_)
  obtain ⟨a9, rfl, h⟩ := h
  refine ⟨_, rfl, ?_⟩
  refine ex_astore (ls2 := [_, _, _, _, _]) (pc := 15) d_Rp_preacceptAgain_15 (Nat.le_of_ble_eq_true rfl) rfl ?_
  refine ex_aload_n (pc := 17) d_Rp_preacceptAgain_17 rfl ?_
  obtain ⟨k10, h⟩ := h
  refine ex_getR (pc := 18) d_Rp_preacceptAgain_18 rfl rfl k10 ?_
  refine ex_iload_n (pc := 21) d_Rp_preacceptAgain_21 rfl ?_
  obtain ⟨q11, e12, h⟩ := h
  obtain ⟨k13, h⟩ := h
  obtain ⟨b14, h⟩ := h
  refine ex_aald (pc := 22) d_Rp_preacceptAgain_22 e12 k13 (by decide) b14 ?_
  refine ex_iconst (w := 1) (pc := 23) d_Rp_preacceptAgain_23 (by decide) ?_
  refine ex_aload (pc := 24) d_Rp_preacceptAgain_24 rfl ?_
  refine ex_aload_n (pc := 26) d_Rp_preacceptAgain_26 rfl ?_
  obtain ⟨q15, e16, h⟩ := h
  obtain ⟨k17, h⟩ := h
  refine ex_getI (pc := 27) d_Rp_preacceptAgain_27 e16 rfl (by decide) k17 ?_
  obtain ⟨q18, e19, h⟩ := h
  obtain ⟨k20, h⟩ := h
  refine ex_cVV (as := [_, _, _]) (st := []) (pc := 30) e19 rfl k20 rfl rfl rfl (Nat.le_of_ble_eq_true rfl) (EX.mono h fun r22 M21 h => ?_)
  obtain ⟨rfl, h⟩ := h
  refine ⟨rfl, ?_⟩
  refine ex_aload_n (pc := 33) d_Rp_preacceptAgain_33 rfl ?_
  refine ex_iconst (w := 1) (pc := 34) d_Rp_preacceptAgain_34 (by decide) ?_
  obtain ⟨k23, h⟩ := h
  refine ex_cVV (as := [_]) (st := []) (pc := 35) e16 rfl k23 rfl rfl rfl (Nat.le_of_ble_eq_true rfl) (EX.mono h fun r25 M24 h => ?_)
  obtain ⟨rfl, h⟩ := h
  refine ⟨rfl, ?_⟩
  refine ex_aload_n (pc := 38) d_Rp_preacceptAgain_38 rfl ?_
  refine ex_iconst (w := 0) (pc := 39) d_Rp_preacceptAgain_39 (by decide) ?_
  refine ex_iload_n (pc := 40) d_Rp_preacceptAgain_40 rfl ?_
  refine ex_aload_n (pc := 41) d_Rp_preacceptAgain_41 rfl ?_
  obtain ⟨k26, h⟩ := h
  refine ex_getI (pc := 42) d_Rp_preacceptAgain_42 e16 rfl (by decide) k26 ?_
  refine ex_aload (pc := 45) d_Rp_preacceptAgain_45 rfl ?_
  obtain ⟨k27, h⟩ := h
  refine ex_cVV (as := [_, _, _, _]) (st := []) (pc := 47) rfl rfl k27 rfl rfl rfl (Nat.le_of_ble_eq_true rfl) (EX.mono h fun r29 M28 h => ?_)
  obtain ⟨rfl, h⟩ := h
  refine ⟨rfl, ?_⟩
  exact ex_ret_v (pc := 50) d_Rp_preacceptAgain_50 rfl h
theorem sg_Rp_finishOpen_0 {h0 : Nat} {v1 : Int32} {a2 : Option Nat} {M : me_M} {Q : Option me_V → me_M → Prop} (h : ∃ q1, a2 = some q1 ∧ mKd M q1 = 6 ∧ EX eL X_At_lastAccepted 0 [some (.inr (some q1)), none, none, none] [] M (fun r5 M4 => ∃ a6, r5 = some (.inr a6) ∧ mKd M4 h0 = 3 ∧ mKd M4 q1 = 6 ∧ EX eL X_At_sharedFastVote 0 [some (.inr (some q1)), some (.inl (v1 / 6)), some (.inl (mI M4 1130 h0 0)), none] [] M4 (fun r10 M9 => ∃ a11, r10 = some (.inr a11) ∧ mKd M9 q1 = 6 ∧ EX eL X_At_firstPreaccepted 0 [some (.inr (some q1)), none] [] M9 (fun r14 M13 => ∃ a15, r14 = some (.inr a15) ∧ ((a6 = none) → ((a11 = none) → ((a15 = none) → ∀ q17 M16, q17 = mSz M13 → M16 = mNew M13 8 0 3 → ∀ q20 M19, q20 = mSz M16 → M19 = mNew M16 7 0 3 → EX eL X_Cmd_init 0 [some (.inr (some q20)), some (.inl 2), some (.inl 0), some (.inl 0)] [] M19 (fun r23 M22 => r23 = none ∧ mKd M22 q17 = 8 ∧ EX eL X_Or_init 0 [some (.inr (some q17)), some (.inr (some q20)), some (.inl 0), some (.inl 0)] [] M22 (fun r26 M25 => r26 = none ∧ mKd M25 h0 = 3 ∧ EX eL X_Rp_beginAccepting 0 [some (.inr (some h0)), some (.inl v1), some (.inr a2), some (.inr (some q17))] [] M25 (fun r29 M28 => r29 = none ∧ Q none M28)))) ∧ ((¬ a15 = none) → ∃ q30, a15 = some q30 ∧ mKd M13 q30 = 9 ∧ ∃ q33, (mR M13 1514 q30 0) = some q33 ∧ mKd M13 q33 = 8 ∧ mKd M13 h0 = 3 ∧ EX eL X_Rp_preacceptAgain 0 [some (.inr (some h0)), some (.inl v1), some (.inr a2), some (.inr (mR M13 1448 q33 0)), none] [] M13 (fun r38 M37 => r38 = none ∧ Q none M37))) ∧ ((¬ a11 = none) → ∃ q39, a11 = some q39 ∧ mKd M13 q39 = 9 ∧ mKd M13 h0 = 3 ∧ EX eL X_Rp_beginAccepting 0 [some (.inr (some h0)), some (.inl v1), some (.inr a2), some (.inr (mR M13 1514 q39 0))] [] M13 (fun r44 M43 => r44 = none ∧ Q none M43))) ∧ ((¬ a6 = none) → ∃ q45, a6 = some q45 ∧ mKd M13 q45 = 9 ∧ mKd M13 h0 = 3 ∧ EX eL X_Rp_beginAccepting 0 [some (.inr (some h0)), some (.inl v1), some (.inr a2), some (.inr (mR M13 1514 q45 0))] [] M13 (fun r50 M49 => r50 = none ∧ Q none M49)))))) : EX eL X_Rp_finishOpen 0 [some (.inr (some h0)), some (.inl v1), some (.inr a2), none, none, none] [] M Q := by
  refine ex_aload_n (pc := 0) d_Rp_finishOpen_0 rfl ?_
  obtain ⟨q1, e2, h⟩ := h
  obtain ⟨k3, h⟩ := h
  refine ex_cVR (as := []) (st := []) (pc := 1) e2 rfl k3 rfl rfl rfl (Nat.le_of_ble_eq_true rfl) (EX.mono h fun r5 M4 h => ?_)
  obtain ⟨a6, rfl, h⟩ := h
  refine ⟨_, rfl, ?_⟩
  refine ex_astore_n (ls2 := [_, _, _, _, _, _]) (pc := 4) d_Rp_finishOpen_4 (Nat.le_of_ble_eq_true rfl) rfl ?_
  refine ex_aload_n (pc := 5) d_Rp_finishOpen_5 rfl ?_
  refine ex_iload_n (pc := 6) d_Rp_finishOpen_6 rfl ?_
  refine ex_bipush (w := 6) (pc := 7) d_Rp_finishOpen_7 (by decide) ?_
  refine ex_idiv (pc := 9) d_Rp_finishOpen_9 (by decide) ?_
  refine ex_aload_n (pc := 10) d_Rp_finishOpen_10 rfl ?_
  obtain ⟨k7, h⟩ := h
  refine ex_getI (pc := 11) d_Rp_finishOpen_11 rfl rfl (by decide) k7 ?_
  obtain ⟨k8, h⟩ := h
  refine ex_cVR (as := [_, _]) (st := []) (pc := 14) e2 rfl k8 rfl rfl rfl (Nat.le_of_ble_eq_true rfl) (EX.mono h fun r10 M9 h => ?_)
  obtain ⟨a11, rfl, h⟩ := h
  refine ⟨_, rfl, ?_⟩
  refine ex_astore (ls2 := [_, _, _, _, _, _]) (pc := 17) d_Rp_finishOpen_17 (Nat.le_of_ble_eq_true rfl) rfl ?_
  refine ex_aload_n (pc := 19) d_Rp_finishOpen_19 rfl ?_
  obtain ⟨k12, h⟩ := h
  refine ex_cVR (as := []) (st := []) (pc := 20) e2 rfl k12 rfl rfl rfl (Nat.le_of_ble_eq_true rfl) (EX.mono h fun r14 M13 h => ?_)
  obtain ⟨a15, rfl, h⟩ := h
  refine ⟨_, rfl, ?_⟩
  refine ex_astore (ls2 := [_, _, _, _, _, _]) (pc := 23) d_Rp_finishOpen_23 (Nat.le_of_ble_eq_true rfl) rfl ?_
  refine ex_aload_n (pc := 25) d_Rp_finishOpen_25 rfl ?_
  refine ex_ifnull (tgt := 42) (pc := 26) d_Rp_finishOpen_26 (by decide) (fun g => ?_) (fun g => ?_)
  · replace h := h.1 g
    refine ex_aload (pc := 42) d_Rp_finishOpen_42 rfl ?_
    refine ex_ifnull (tgt := 61) (pc := 44) d_Rp_finishOpen_44 (by decide) (fun g => ?_) (fun g => ?_)
    · replace h := h.1 g
      refine ex_aload (pc := 61) d_Rp_finishOpen_61 rfl ?_
      refine ex_ifnull (tgt := 83) (pc := 63) d_Rp_finishOpen_63 (by decide) (fun g => ?_) (fun g => ?_)
      · replace h := h.1 g
        refine ex_aload_n (pc := 83) d_Rp_finishOpen_83 rfl ?_
        refine ex_iload_n (pc := 84) d_Rp_finishOpen_84 rfl ?_
        refine ex_aload_n (pc := 85) d_Rp_finishOpen_85 rfl ?_
        refine ex_new (ci := 7) (n := 3) (pc := 86) d_Rp_finishOpen_86 rfl (fun k18 => ?_)
        replace h := h _ _ rfl rfl
        refine ex_dup (pc := 89) d_Rp_finishOpen_89 ?_
        refine ex_new (ci := 6) (n := 3) (pc := 90) d_Rp_finishOpen_90 rfl (fun k21 => ?_)
        replace h := h _ _ rfl rfl
        refine ex_dup (pc := 93) d_Rp_finishOpen_93 ?_
        refine ex_iconst (w := 2) (pc := 94) d_Rp_finishOpen_94 (by decide) ?_
        refine ex_iconst (w := 0) (pc := 95) d_Rp_finishOpen_95 (by decide) ?_
        refine ex_iconst (w := 0) (pc := 96) d_Rp_finishOpen_96 (by decide) ?_
        refine ex_cVV (as := [_, _, _]) (st := [_, _, _, _, _, _]) (pc := 97) rfl rfl k21 rfl rfl rfl (Nat.le_of_ble_eq_true rfl) (EX.mono h fun r23 M22 h => ?_)
        obtain ⟨rfl, h⟩ := h
        refine ⟨rfl, ?_⟩
        refine ex_iconst (w := 0) (pc := 100) d_Rp_finishOpen_100 (by decide) ?_
        refine ex_iconst (w := 0) (pc := 101) d_Rp_finishOpen_101 (by decide) ?_
        obtain ⟨k24, h⟩ := h
        refine ex_cVV (as := [_, _, _]) (st := [_, _, _, _]) (pc := 102) rfl rfl k24 rfl rfl rfl (Nat.le_of_ble_eq_true rfl) (EX.mono h fun r26 M25 h => ?_)
        obtain ⟨rfl, h⟩ := h
        refine ⟨rfl, ?_⟩
        obtain ⟨k27, h⟩ := h
        refine ex_cVV (as := [_, _, _]) (st := []) (pc := 105) rfl rfl k27 rfl rfl rfl (Nat.le_of_ble_eq_true rfl) (EX.mono h fun r29 M28 h => ?_)
        obtain ⟨rfl, h⟩ := h
        refine ⟨rfl, ?_⟩
        exact ex_ret_v (pc := 108) d_Rp_finishOpen_108 rfl h
      · replace h := h.2 g
        refine ex_aload_n (pc := 66) d_Rp_finishOpen_66 rfl ?_
        refine ex_iload_n (pc := 67) d_Rp_finishOpen_67 rfl ?_
        refine ex_aload_n (pc := 68) d_Rp_finishOpen_68 rfl ?_
        refine ex_aload (pc := 69) d_Rp_finishOpen_69 rfl ?_
        obtain ⟨q30, e31, h⟩ := h
        obtain ⟨k32, h⟩ := h
        refine ex_getR (pc := 71) d_Rp_finishOpen_71 e31 rfl k32 ?_
        obtain ⟨q33, e34, h⟩ := h
        obtain ⟨k35, h⟩ := h
        refine ex_getR (pc := 74) d_Rp_finishOpen_74 e34 rfl k35 ?_
        obtain ⟨k36, h⟩ := h
        refine ex_cVV (as := [_, _, _]) (st := []) (pc := 77) rfl rfl k36 rfl rfl rfl (Nat.le_of_ble_eq_true rfl) (EX.mono h fun r38 M37 h => ?_)
        obtain ⟨rfl, h⟩ := h
        refine ⟨rfl, ?_⟩
        refine ex_goto (tgt := 108) (pc := 80) d_Rp_finishOpen_80 (by decide) ?_
        exact ex_ret_v (pc := 108) d_Rp_finishOpen_108 rfl h
    · replace h := h.2 g
      refine ex_aload_n (pc := 47) d_Rp_finishOpen_47 rfl ?_
      refine ex_iload_n (pc := 48) d_Rp_finishOpen_48 rfl ?_
      refine ex_aload_n (pc := 49) d_Rp_finishOpen_49 rfl ?_
      refine ex_aload (pc := 50) d_Rp_finishOpen_50 rfl ?_
      obtain ⟨q39, e40, h⟩ := h
      obtain ⟨k41, h⟩ := h
      refine ex_getR (pc := 52) d_Rp_finishOpen_52 e40 rfl k41 ?_
      obtain ⟨k42, h⟩ := h
      refine ex_cVV (as := [_, _, _]) (st := []) (pc := 55) rfl rfl k42 rfl rfl rfl (Nat.le_of_ble_eq_true rfl) (EX.mono h fun r44 M43 h => ?_)
      obtain ⟨rfl, h⟩ := h
      refine ⟨rfl, ?_⟩
      refine ex_goto (tgt := 108) (pc := 58) d_Rp_finishOpen_58 (by decide) ?_
      exact ex_ret_v (pc := 108) d_Rp_finishOpen_108 rfl h
  · replace h := h.2 g
    refine ex_aload_n (pc := 29) d_Rp_finishOpen_29 rfl ?_
    refine ex_iload_n (pc := 30) d_Rp_finishOpen_30 rfl ?_
    refine ex_aload_n (pc := 31) d_Rp_finishOpen_31 rfl ?_
    refine ex_aload_n (pc := 32) d_Rp_finishOpen_32 rfl ?_
    obtain ⟨q45, e46, h⟩ := h
    obtain ⟨k47, h⟩ := h
    refine ex_getR (pc := 33) d_Rp_finishOpen_33 e46 rfl k47 ?_
    obtain ⟨k48, h⟩ := h
    refine ex_cVV (as := [_, _, _]) (st := []) (pc := 36) rfl rfl k48 rfl rfl rfl (Nat.le_of_ble_eq_true rfl) (EX.mono h fun r50 M49 h => ?_)
    obtain ⟨rfl, h⟩ := h
    refine ⟨rfl, ?_⟩
    refine ex_goto (tgt := 108) (pc := 39) d_Rp_finishOpen_39 (by decide) ?_
    exact ex_ret_v (pc := 108) d_Rp_finishOpen_108 rfl h
theorem sg_Rp_onPromise_0 {h0 : Nat} {a1 : Option Nat} {a2 : Option Nat} {M : me_M} {Q : Option me_V → me_M → Prop} (h : mKd M h0 = 3 ∧ EX eL X_Rp_liveAttempt 0 [some (.inr (some h0)), some (.inr a1), some (.inl 0), none, none] [] M (fun r3 M2 => ∃ a4, r3 = some (.inr a4) ∧ ((¬ a4 = none) → ∃ q5, a1 = some q5 ∧ mKd M2 q5 = 10 ∧ ∃ q8, a4 = some q8 ∧ mKd M2 q8 = 6 ∧ EX eL X_At_countReport 0 [some (.inr (some q8)), some (.inr (mR M2 1582 q5 0))] [] M2 (fun r12 M11 => r12 = none ∧ mKd M11 q8 = 6 ∧ mKd M11 h0 = 3 ∧ ((¬ (mI M11 1324 q8 0) = (mI M11 1130 h0 0)) → Q none M11) ∧ (((mI M11 1324 q8 0) = (mI M11 1130 h0 0)) → ∀ q16 M15, q16 = mSz M11 → M15 = mNew M11 9 0 4 → mKd M15 h0 = 3 ∧ EX eL X_Rt_init 0 [some (.inr (some q16)), some (.inl (mI M15 1128 h0 0)), some (.inr a2)] [] M15 (fun r20 M19 => r20 = none ∧ mKd M19 q8 = 6 ∧ EX eL X_At_countReport 0 [some (.inr (some q8)), some (.inr (some q16))] [] M19 (fun r23 M22 => r23 = none ∧ mKd M22 q5 = 10 ∧ mKd M22 h0 = 3 ∧ EX eL X_Rp_finishOpen 0 [some (.inr (some h0)), some (.inl (mI M22 1579 q5 0)), some (.inr a4), none, none, none] [] M22 (fun r27 M26 => r27 = none ∧ Q none M26)))))) ∧ ((a4 = none) → Q none M2))) : EX eL X_Rp_onPromise 0 [some (.inr (some h0)), some (.inr a1), some (.inr a2), none] [] M Q := by
  refine ex_aload_n (pc := 0) d_Rp_onPromise_0 rfl ?_
  refine ex_aload_n (pc := 1) d_Rp_onPromise_1 rfl ?_
  refine ex_iconst (w := 0) (pc := 2) d_Rp_onPromise_2 (by decide) ?_
  obtain ⟨k1, h⟩ := h
  refine ex_cVR (as := [_, _]) (st := []) (pc := 3) rfl rfl k1 rfl rfl rfl (Nat.le_of_ble_eq_true rfl) (EX.mono h fun r3 M2 h => ?_)
  obtain ⟨a4, rfl, h⟩ := h
  refine ⟨_, rfl, ?_⟩
  refine ex_astore_n (ls2 := [_, _, _, _]) (pc := 6) d_Rp_onPromise_6 (Nat.le_of_ble_eq_true rfl) rfl ?_
  refine ex_aload_n (pc := 7) d_Rp_onPromise_7 rfl ?_
  refine ex_ifnonnull (tgt := 12) (pc := 8) d_Rp_onPromise_8 (by decide) (fun g => ?_) (fun g => ?_)
  · replace h := h.1 g
    refine ex_aload_n (pc := 12) d_Rp_onPromise_12 rfl ?_
    refine ex_aload_n (pc := 13) d_Rp_onPromise_13 rfl ?_
    obtain ⟨q5, e6, h⟩ := h
    obtain ⟨k7, h⟩ := h
    refine ex_getR (pc := 14) d_Rp_onPromise_14 e6 rfl k7 ?_
    obtain ⟨q8, e9, h⟩ := h
    obtain ⟨k10, h⟩ := h
    refine ex_cVV (as := [_]) (st := []) (pc := 17) e9 rfl k10 rfl rfl rfl (Nat.le_of_ble_eq_true rfl) (EX.mono h fun r12 M11 h => ?_)
    obtain ⟨rfl, h⟩ := h
    refine ⟨rfl, ?_⟩
    refine ex_aload_n (pc := 20) d_Rp_onPromise_20 rfl ?_
    obtain ⟨k13, h⟩ := h
    refine ex_getI (pc := 21) d_Rp_onPromise_21 e9 rfl (by decide) k13 ?_
    refine ex_aload_n (pc := 24) d_Rp_onPromise_24 rfl ?_
    obtain ⟨k14, h⟩ := h
    refine ex_getI (pc := 25) d_Rp_onPromise_25 rfl rfl (by decide) k14 ?_
    refine ex_icmp_ne (tgt := 56) (pc := 28) d_Rp_onPromise_28 (by decide) (fun g => ?_) (fun g => ?_)
    · replace h := h.1 g
      exact ex_ret_v (pc := 56) d_Rp_onPromise_56 rfl h
    · replace h := h.2 g
      refine ex_aload_n (pc := 31) d_Rp_onPromise_31 rfl ?_
      refine ex_new (ci := 8) (n := 4) (pc := 32) d_Rp_onPromise_32 rfl (fun k17 => ?_)
      replace h := h _ _ rfl rfl
      refine ex_dup (pc := 35) d_Rp_onPromise_35 ?_
      refine ex_aload_n (pc := 36) d_Rp_onPromise_36 rfl ?_
      obtain ⟨k18, h⟩ := h
      refine ex_getI (pc := 37) d_Rp_onPromise_37 rfl rfl (by decide) k18 ?_
      refine ex_aload_n (pc := 40) d_Rp_onPromise_40 rfl ?_
      refine ex_cVV (as := [_, _]) (st := [_, _]) (pc := 41) rfl rfl k17 rfl rfl rfl (Nat.le_of_ble_eq_true rfl) (EX.mono h fun r20 M19 h => ?_)
      obtain ⟨rfl, h⟩ := h
      refine ⟨rfl, ?_⟩
      obtain ⟨k21, h⟩ := h
      refine ex_cVV (as := [_]) (st := []) (pc := 44) e9 rfl k21 rfl rfl rfl (Nat.le_of_ble_eq_true rfl) (EX.mono h fun r23 M22 h => ?_)
      obtain ⟨rfl, h⟩ := h
      refine ⟨rfl, ?_⟩
      refine ex_aload_n (pc := 47) d_Rp_onPromise_47 rfl ?_
      refine ex_aload_n (pc := 48) d_Rp_onPromise_48 rfl ?_
      obtain ⟨k24, h⟩ := h
      refine ex_getI (pc := 49) d_Rp_onPromise_49 e6 rfl (by decide) k24 ?_
      refine ex_aload_n (pc := 52) d_Rp_onPromise_52 rfl ?_
      obtain ⟨k25, h⟩ := h
      refine ex_cVV (as := [_, _]) (st := []) (pc := 53) rfl rfl k25 rfl rfl rfl (Nat.le_of_ble_eq_true rfl) (EX.mono h fun r27 M26 h => ?_)
      obtain ⟨rfl, h⟩ := h
      refine ⟨rfl, ?_⟩
      exact ex_ret_v (pc := 56) d_Rp_onPromise_56 rfl h
  · replace h := h.2 g
    exact ex_ret_v (pc := 11) d_Rp_onPromise_11 rfl h
