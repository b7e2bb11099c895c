theorem sg_Md_counts_0 {h0 : Nat} {v1 : Int32} {v2 : Int32} {M : me_M} {Q : Option me_V → me_M → Prop} (h : mKd M h0 = 11 ∧ ∃ q2, (mR M 1668 h0 0) = some q2 ∧ mKd M q2 = 100 ∧ vp_in 444 (mLn M q2) ∧ ∀ x6, x6 = (mI M 100 q2 (444 : Int32).toNatClampNeg) → ∃ q7, (mR M 1655 h0 0) = some q7 ∧ mKd M q7 = 101 ∧ vp_in v1 (mLn M q7) ∧ (((mI M 101 q7 v1.toNatClampNeg) = 0) → ∃ q11, (mR M 1656 h0 0) = some q11 ∧ mKd M q11 = 100 ∧ vp_in v1 (mLn M q11) ∧ (((mI M 100 q11 v1.toNatClampNeg) = v2) → Q (some (.inl 0)) M) ∧ ((¬ (mI M 100 q11 v1.toNatClampNeg) = v2) → ((¬ v2 = 1) → Q (some (.inl 0)) M) ∧ ((v2 = 1) → vp_in v1 (mLn M q11) ∧ ((¬ (mI M 100 q11 v1.toNatClampNeg) = 0) → Q (some (.inl 0)) M) ∧ (((mI M 100 q11 v1.toNatClampNeg) = 0) → Q (some (.inl 0)) M)))) ∧ ((¬ (mI M 101 q7 v1.toNatClampNeg) = 0) → ∃ q16, (mR M 1657 h0 0) = some q16 ∧ mKd M q16 = 100 ∧ vp_in v1 (mLn M q16) ∧ ∃ q20, (mR M 1651 h0 0) = some q20 ∧ mKd M q20 = 100 ∧ vp_in v1 (mLn M q20) ∧ ((¬ (mI M 100 q16 v1.toNatClampNeg) = (mI M 100 q20 v1.toNatClampNeg)) → ∃ q24, (mR M 1656 h0 0) = some q24 ∧ mKd M q24 = 100 ∧ vp_in v1 (mLn M q24) ∧ (((mI M 100 q24 v1.toNatClampNeg) = v2) → Q (some (.inl 0)) M) ∧ ((¬ (mI M 100 q24 v1.toNatClampNeg) = v2) → ((¬ v2 = 1) → Q (some (.inl 0)) M) ∧ ((v2 = 1) → vp_in v1 (mLn M q24) ∧ ((¬ (mI M 100 q24 v1.toNatClampNeg) = 0) → Q (some (.inl 0)) M) ∧ (((mI M 100 q24 v1.toNatClampNeg) = 0) → Q (some (.inl 0)) M)))) ∧ (((mI M 100 q16 v1.toNatClampNeg) = (mI M 100 q20 v1.toNatClampNeg)) → ∃ q29, (mR M 1646 h0 0) = some q29 ∧ mKd M q29 = 100 ∧ vp_in v1 (mLn M q29) ∧ ((3 ≤ (mI M 100 q29 v1.toNatClampNeg)) → ∃ q33, (mR M 1656 h0 0) = some q33 ∧ mKd M q33 = 100 ∧ vp_in v1 (mLn M q33) ∧ (((mI M 100 q33 v1.toNatClampNeg) = v2) → Q (some (.inl 0)) M) ∧ ((¬ (mI M 100 q33 v1.toNatClampNeg) = v2) → ((¬ v2 = 1) → Q (some (.inl 0)) M) ∧ ((v2 = 1) → vp_in v1 (mLn M q33) ∧ ((¬ (mI M 100 q33 v1.toNatClampNeg) = 0) → Q (some (.inl 0)) M) ∧ (((mI M 100 q33 v1.toNatClampNeg) = 0) → Q (some (.inl 0)) M)))) ∧ ((¬ 3 ≤ (mI M 100 q29 v1.toNatClampNeg)) → ∃ q38, (mR M 1656 h0 0) = some q38 ∧ mKd M q38 = 100 ∧ vp_in v1 (mLn M q38) ∧ (((mI M 100 q38 v1.toNatClampNeg) = v2) → vp_in v1 (mLn M q16) ∧ ((¬ (mI M 100 q16 v1.toNatClampNeg) = x6) → Q (some (.inl 0)) M) ∧ (((mI M 100 q16 v1.toNatClampNeg) = x6) → ∃ q43, (mR M 1658 h0 0) = some q43 ∧ mKd M q43 = 100 ∧ vp_in v1 (mLn M q43) ∧ (((mI M 100 q43 v1.toNatClampNeg) ≤ 3) → EX eL X_Md_counts 113 [some (.inr (some h0)), some (.inl v1), none, none, none, none, none] [] M Q) ∧ ((¬ (mI M 100 q43 v1.toNatClampNeg) ≤ 3) → Q (some (.inl 0)) M))) ∧ ((¬ (mI M 100 q38 v1.toNatClampNeg) = v2) → ((¬ v2 = 1) → Q (some (.inl 0)) M) ∧ ((v2 = 1) → vp_in v1 (mLn M q38) ∧ ((¬ (mI M 100 q38 v1.toNatClampNeg) = 0) → Q (some (.inl 0)) M) ∧ (((mI M 100 q38 v1.toNatClampNeg) = 0) → vp_in v1 (mLn M q16) ∧ ((¬ (mI M 100 q16 v1.toNatClampNeg) = x6) → Q (some (.inl 0)) M) ∧ (((mI M 100 q16 v1.toNatClampNeg) = x6) → ∃ q49, (mR M 1658 h0 0) = some q49 ∧ mKd M q49 = 100 ∧ vp_in v1 (mLn M q49) ∧ (((mI M 100 q49 v1.toNatClampNeg) ≤ 3) → EX eL X_Md_counts 113 [some (.inr (some h0)), some (.inl v1), none, none, none, none, none] [] M Q) ∧ ((¬ (mI M 100 q49 v1.toNatClampNeg) ≤ 3) → Q (some (.inl 0)) M))))))))) : EX eL X_Md_counts 0 [some (.inr (some h0)), some (.inl v1), some (.inl v2), none, none, none, none] [] M Q := by
  refine ex_aload_n (pc := 0) d_Md_counts_0 rfl ?_
  obtain ⟨k1, h⟩ := h
  refine ex_getR (pc := 1) d_Md_counts_1 rfl rfl k1 ?_
  refine ex_sipush (w := 444) (pc := 4) d_Md_counts_4 (by decide) ?_
  obtain ⟨q2, e3, h⟩ := h
  obtain ⟨k4, h⟩ := h
  obtain ⟨b5, h⟩ := h
  refine ex_iald (pc := 7) d_Md_counts_7 e3 k4 b5 ?_
  refine ex_istore_n (ls2 := [_, _, _, _, _, _, _]) (pc := 8) d_Md_counts_8 (Nat.le_of_ble_eq_true rfl) rfl ?_
  replace h := h _ rfl
  refine ex_aload_n (pc := 9) d_Md_counts_9 rfl ?_
  refine ex_getR (pc := 10) d_Md_counts_10 rfl rfl k1 ?_
  refine ex_iload_n (pc := 13) d_Md_counts_13 rfl ?_
  obtain ⟨q7, e8, h⟩ := h
  obtain ⟨k9, h⟩ := h
  obtain ⟨b10, h⟩ := h
  refine ex_zald (pc := 14) d_Md_counts_14 e8 k9 b10 ?_
  refine ex_if_eq (tgt := 47) (pc := 15) d_Md_counts_15 (by decide) (fun g => ?_) (fun g => ?_)
  · replace h := h.1 g
    refine ex_iconst (w := 0) (pc := 47) d_Md_counts_47 (by decide) ?_
    refine ex_istore (ls2 := [_, _, _, _, _, _, _]) (pc := 48) d_Md_counts_48 (Nat.le_of_ble_eq_true rfl) rfl ?_
    refine ex_aload_n (pc := 50) d_Md_counts_50 rfl ?_
    refine ex_getR (pc := 51) d_Md_counts_51 rfl rfl k1 ?_
    refine ex_iload_n (pc := 54) d_Md_counts_54 rfl ?_
    obtain ⟨q11, e12, h⟩ := h
    obtain ⟨k13, h⟩ := h
    obtain ⟨b14, h⟩ := h
    refine ex_iald (pc := 55) d_Md_counts_55 e12 k13 b14 ?_
    refine ex_iload_n (pc := 56) d_Md_counts_56 rfl ?_
    refine ex_icmp_eq (tgt := 74) (pc := 57) d_Md_counts_57 (by decide) (fun g => ?_) (fun g => ?_)
    · replace h := h.1 g
      refine ex_iconst (w := 1) (pc := 74) d_Md_counts_74 (by decide) ?_
      refine ex_goto (tgt := 79) (pc := 75) d_Md_counts_75 (by decide) ?_
      refine ex_istore (ls2 := [_, _, _, _, _, _, _]) (pc := 79) d_Md_counts_79 (Nat.le_of_ble_eq_true rfl) rfl ?_
      refine ex_iload (pc := 81) d_Md_counts_81 rfl ?_
      refine ex_if_eq (tgt := 111) (pc := 83) d_Md_counts_83 (by decide) (fun _ => ?_) (fun g => absurd g (by decide))
      refine ex_iconst (w := 0) (pc := 111) d_Md_counts_111 (by decide) ?_
      exact ex_ret_z (pc := 112) d_Md_counts_112 rfl (Or.inl rfl) h
    · replace h := h.2 g
      refine ex_iload_n (pc := 60) d_Md_counts_60 rfl ?_
      refine ex_iconst (w := 1) (pc := 61) d_Md_counts_61 (by decide) ?_
      refine ex_icmp_ne (tgt := 78) (pc := 62) d_Md_counts_62 (by decide) (fun g => ?_) (fun g => ?_)
      · replace h := h.1 g
        refine ex_iconst (w := 0) (pc := 78) d_Md_counts_78 (by decide) ?_
        refine ex_istore (ls2 := [_, _, _, _, _, _, _]) (pc := 79) d_Md_counts_79 (Nat.le_of_ble_eq_true rfl) rfl ?_
        refine ex_iload (pc := 81) d_Md_counts_81 rfl ?_
        refine ex_if_eq (tgt := 111) (pc := 83) d_Md_counts_83 (by decide) (fun _ => ?_) (fun g => absurd g (by decide))
        refine ex_iconst (w := 0) (pc := 111) d_Md_counts_111 (by decide) ?_
        exact ex_ret_z (pc := 112) d_Md_counts_112 rfl (Or.inl rfl) h
      · replace h := h.2 g
        refine ex_aload_n (pc := 65) d_Md_counts_65 rfl ?_
        refine ex_getR (pc := 66) d_Md_counts_66 rfl rfl k1 ?_
        refine ex_iload_n (pc := 69) d_Md_counts_69 rfl ?_
        obtain ⟨b15, h⟩ := h
        refine ex_iald (pc := 70) d_Md_counts_70 e12 k13 b15 ?_
        refine ex_if_ne (tgt := 78) (pc := 71) d_Md_counts_71 (by decide) (fun g => ?_) (fun g => ?_)
        · replace h := h.1 g
          refine ex_iconst (w := 0) (pc := 78) d_Md_counts_78 (by decide) ?_
          refine ex_istore (ls2 := [_, _, _, _, _, _, _]) (pc := 79) d_Md_counts_79 (Nat.le_of_ble_eq_true rfl) rfl ?_
          refine ex_iload (pc := 81) d_Md_counts_81 rfl ?_
          refine ex_if_eq (tgt := 111) (pc := 83) d_Md_counts_83 (by decide) (fun _ => ?_) (fun g => absurd g (by decide))
          refine ex_iconst (w := 0) (pc := 111) d_Md_counts_111 (by decide) ?_
          exact ex_ret_z (pc := 112) d_Md_counts_112 rfl (Or.inl rfl) h
        · replace h := h.2 g
          refine ex_iconst (w := 1) (pc := 74) d_Md_counts_74 (by decide) ?_
          refine ex_goto (tgt := 79) (pc := 75) d_Md_counts_75 (by decide) ?_
          refine ex_istore (ls2 := [_, _, _, _, _, _, _]) (pc := 79) d_Md_counts_79 (Nat.le_of_ble_eq_true rfl) rfl ?_
          refine ex_iload (pc := 81) d_Md_counts_81 rfl ?_
          refine ex_if_eq (tgt := 111) (pc := 83) d_Md_counts_83 (by decide) (fun _ => ?_) (fun g => absurd g (by decide))
          refine ex_iconst (w := 0) (pc := 111) d_Md_counts_111 (by decide) ?_
          exact ex_ret_z (pc := 112) d_Md_counts_112 rfl (Or.inl rfl) h
  · replace h := h.2 g
    refine ex_aload_n (pc := 18) d_Md_counts_18 rfl ?_
    refine ex_getR (pc := 19) d_Md_counts_19 rfl rfl k1 ?_
    refine ex_iload_n (pc := 22) d_Md_counts_22 rfl ?_
    obtain ⟨q16, e17, h⟩ := h
    obtain ⟨k18, h⟩ := h
    obtain ⟨b19, h⟩ := h
    refine ex_iald (pc := 23) d_Md_counts_23 e17 k18 b19 ?_
    refine ex_aload_n (pc := 24) d_Md_counts_24 rfl ?_
    refine ex_getR (pc := 25) d_Md_counts_25 rfl rfl k1 ?_
    refine ex_iload_n (pc := 28) d_Md_counts_28 rfl ?_
    obtain ⟨q20, e21, h⟩ := h
    obtain ⟨k22, h⟩ := h
    obtain ⟨b23, h⟩ := h
    refine ex_iald (pc := 29) d_Md_counts_29 e21 k22 b23 ?_
    refine ex_icmp_ne (tgt := 47) (pc := 30) d_Md_counts_30 (by decide) (fun g => ?_) (fun g => ?_)
    · replace h := h.1 g
      refine ex_iconst (w := 0) (pc := 47) d_Md_counts_47 (by decide) ?_
      refine ex_istore (ls2 := [_, _, _, _, _, _, _]) (pc := 48) d_Md_counts_48 (Nat.le_of_ble_eq_true rfl) rfl ?_
      refine ex_aload_n (pc := 50) d_Md_counts_50 rfl ?_
      refine ex_getR (pc := 51) d_Md_counts_51 rfl rfl k1 ?_
      refine ex_iload_n (pc := 54) d_Md_counts_54 rfl ?_
      obtain ⟨q24, e25, h⟩ := h
      obtain ⟨k26, h⟩ := h
      obtain ⟨b27, h⟩ := h
      refine ex_iald (pc := 55) d_Md_counts_55 e25 k26 b27 ?_
      refine ex_iload_n (pc := 56) d_Md_counts_56 rfl ?_
      refine ex_icmp_eq (tgt := 74) (pc := 57) d_Md_counts_57 (by decide) (fun g => ?_) (fun g => ?_)
      · replace h := h.1 g
        refine ex_iconst (w := 1) (pc := 74) d_Md_counts_74 (by decide) ?_
        refine ex_goto (tgt := 79) (pc := 75) d_Md_counts_75 (by decide) ?_
        refine ex_istore (ls2 := [_, _, _, _, _, _, _]) (pc := 79) d_Md_counts_79 (Nat.le_of_ble_eq_true rfl) rfl ?_
        refine ex_iload (pc := 81) d_Md_counts_81 rfl ?_
        refine ex_if_eq (tgt := 111) (pc := 83) d_Md_counts_83 (by decide) (fun _ => ?_) (fun g => absurd g (by decide))
        refine ex_iconst (w := 0) (pc := 111) d_Md_counts_111 (by decide) ?_
        exact ex_ret_z (pc := 112) d_Md_counts_112 rfl (Or.inl rfl) h
      · replace h := h.2 g
        refine ex_iload_n (pc := 60) d_Md_counts_60 rfl ?_
        refine ex_iconst (w := 1) (pc := 61) d_Md_counts_61 (by decide) ?_
        refine ex_icmp_ne (tgt := 78) (pc := 62) d_Md_counts_62 (by decide) (fun g => ?_) (fun g => ?_)
        · replace h := h.1 g
          refine ex_iconst (w := 0) (pc := 78) d_Md_counts_78 (by decide) ?_
          refine ex_istore (ls2 := [_, _, _, _, _, _, _]) (pc := 79) d_Md_counts_79 (Nat.le_of_ble_eq_true rfl) rfl ?_
          refine ex_iload (pc := 81) d_Md_counts_81 rfl ?_
          refine ex_if_eq (tgt := 111) (pc := 83) d_Md_counts_83 (by decide) (fun _ => ?_) (fun g => absurd g (by decide))
          refine ex_iconst (w := 0) (pc := 111) d_Md_counts_111 (by decide) ?_
          exact ex_ret_z (pc := 112) d_Md_counts_112 rfl (Or.inl rfl) h
        · replace h := h.2 g
          refine ex_aload_n (pc := 65) d_Md_counts_65 rfl ?_
          refine ex_getR (pc := 66) d_Md_counts_66 rfl rfl k1 ?_
          refine ex_iload_n (pc := 69) d_Md_counts_69 rfl ?_
          obtain ⟨b28, h⟩ := h
          refine ex_iald (pc := 70) d_Md_counts_70 e25 k26 b28 ?_
          refine ex_if_ne (tgt := 78) (pc := 71) d_Md_counts_71 (by decide) (fun g => ?_) (fun g => ?_)
          · replace h := h.1 g
            refine ex_iconst (w := 0) (pc := 78) d_Md_counts_78 (by decide) ?_
            refine ex_istore (ls2 := [_, _, _, _, _, _, _]) (pc := 79) d_Md_counts_79 (Nat.le_of_ble_eq_true rfl) rfl ?_
            refine ex_iload (pc := 81) d_Md_counts_81 rfl ?_
            refine ex_if_eq (tgt := 111) (pc := 83) d_Md_counts_83 (by decide) (fun _ => ?_) (fun g => absurd g (by decide))
            refine ex_iconst (w := 0) (pc := 111) d_Md_counts_111 (by decide) ?_
            exact ex_ret_z (pc := 112) d_Md_counts_112 rfl (Or.inl rfl) h
          · replace h := h.2 g
            refine ex_iconst (w := 1) (pc := 74) d_Md_counts_74 (by decide) ?_
            refine ex_goto (tgt := 79) (pc := 75) d_Md_counts_75 (by decide) ?_
            refine ex_istore (ls2 := [_, _, _, _, _, _, _]) (pc := 79) d_Md_counts_79 (Nat.le_of_ble_eq_true rfl) rfl ?_
            refine ex_iload (pc := 81) d_Md_counts_81 rfl ?_
            refine ex_if_eq (tgt := 111) (pc := 83) d_Md_counts_83 (by decide) (fun _ => ?_) (fun g => absurd g (by decide))
            refine ex_iconst (w := 0) (pc := 111) d_Md_counts_111 (by decide) ?_
            exact ex_ret_z (pc := 112) d_Md_counts_112 rfl (Or.inl rfl) h
    · replace h := h.2 g
      refine ex_aload_n (pc := 33) d_Md_counts_33 rfl ?_
      refine ex_getR (pc := 34) d_Md_counts_34 rfl rfl k1 ?_
      refine ex_iload_n (pc := 37) d_Md_counts_37 rfl ?_
      obtain ⟨q29, e30, h⟩ := h
      obtain ⟨k31, h⟩ := h
      obtain ⟨b32, h⟩ := h
      refine ex_iald (pc := 38) d_Md_counts_38 e30 k31 b32 ?_
      refine ex_iconst (w := 3) (pc := 39) d_Md_counts_39 (by decide) ?_
      refine ex_icmp_ge (tgt := 47) (pc := 40) d_Md_counts_40 (by decide) (fun g => ?_) (fun g => ?_)
      · replace h := h.1 g
        refine ex_iconst (w := 0) (pc := 47) d_Md_counts_47 (by decide) ?_
        refine ex_istore (ls2 := [_, _, _, _, _, _, _]) (pc := 48) d_Md_counts_48 (Nat.le_of_ble_eq_true rfl) rfl ?_
        refine ex_aload_n (pc := 50) d_Md_counts_50 rfl ?_
        refine ex_getR (pc := 51) d_Md_counts_51 rfl rfl k1 ?_
        refine ex_iload_n (pc := 54) d_Md_counts_54 rfl ?_
        obtain ⟨q33, e34, h⟩ := h
        obtain ⟨k35, h⟩ := h
        obtain ⟨b36, h⟩ := h
        refine ex_iald (pc := 55) d_Md_counts_55 e34 k35 b36 ?_
        refine ex_iload_n (pc := 56) d_Md_counts_56 rfl ?_
        refine ex_icmp_eq (tgt := 74) (pc := 57) d_Md_counts_57 (by decide) (fun g => ?_) (fun g => ?_)
        · replace h := h.1 g
          refine ex_iconst (w := 1) (pc := 74) d_Md_counts_74 (by decide) ?_
          refine ex_goto (tgt := 79) (pc := 75) d_Md_counts_75 (by decide) ?_
          refine ex_istore (ls2 := [_, _, _, _, _, _, _]) (pc := 79) d_Md_counts_79 (Nat.le_of_ble_eq_true rfl) rfl ?_
          refine ex_iload (pc := 81) d_Md_counts_81 rfl ?_
          refine ex_if_eq (tgt := 111) (pc := 83) d_Md_counts_83 (by decide) (fun _ => ?_) (fun g => absurd g (by decide))
          refine ex_iconst (w := 0) (pc := 111) d_Md_counts_111 (by decide) ?_
          exact ex_ret_z (pc := 112) d_Md_counts_112 rfl (Or.inl rfl) h
        · replace h := h.2 g
          refine ex_iload_n (pc := 60) d_Md_counts_60 rfl ?_
          refine ex_iconst (w := 1) (pc := 61) d_Md_counts_61 (by decide) ?_
          refine ex_icmp_ne (tgt := 78) (pc := 62) d_Md_counts_62 (by decide) (fun g => ?_) (fun g => ?_)
          · replace h := h.1 g
            refine ex_iconst (w := 0) (pc := 78) d_Md_counts_78 (by decide) ?_
            refine ex_istore (ls2 := [_, _, _, _, _, _, _]) (pc := 79) d_Md_counts_79 (Nat.le_of_ble_eq_true rfl) rfl ?_
            refine ex_iload (pc := 81) d_Md_counts_81 rfl ?_
            refine ex_if_eq (tgt := 111) (pc := 83) d_Md_counts_83 (by decide) (fun _ => ?_) (fun g => absurd g (by decide))
            refine ex_iconst (w := 0) (pc := 111) d_Md_counts_111 (by decide) ?_
            exact ex_ret_z (pc := 112) d_Md_counts_112 rfl (Or.inl rfl) h
          · replace h := h.2 g
            refine ex_aload_n (pc := 65) d_Md_counts_65 rfl ?_
            refine ex_getR (pc := 66) d_Md_counts_66 rfl rfl k1 ?_
            refine ex_iload_n (pc := 69) d_Md_counts_69 rfl ?_
            obtain ⟨b37, h⟩ := h
            refine ex_iald (pc := 70) d_Md_counts_70 e34 k35 b37 ?_
            refine ex_if_ne (tgt := 78) (pc := 71) d_Md_counts_71 (by decide) (fun g => ?_) (fun g => ?_)
            · replace h := h.1 g
              refine ex_iconst (w := 0) (pc := 78) d_Md_counts_78 (by decide) ?_
              refine ex_istore (ls2 := [_, _, _, _, _, _, _]) (pc := 79) d_Md_counts_79 (Nat.le_of_ble_eq_true rfl) rfl ?_
              refine ex_iload (pc := 81) d_Md_counts_81 rfl ?_
              refine ex_if_eq (tgt := 111) (pc := 83) d_Md_counts_83 (by decide) (fun _ => ?_) (fun g => absurd g (by decide))
              refine ex_iconst (w := 0) (pc := 111) d_Md_counts_111 (by decide) ?_
              exact ex_ret_z (pc := 112) d_Md_counts_112 rfl (Or.inl rfl) h
            · replace h := h.2 g
              refine ex_iconst (w := 1) (pc := 74) d_Md_counts_74 (by decide) ?_
              refine ex_goto (tgt := 79) (pc := 75) d_Md_counts_75 (by decide) ?_
              refine ex_istore (ls2 := [_, _, _, _, _, _, _]) (pc := 79) d_Md_counts_79 (Nat.le_of_ble_eq_true rfl) rfl ?_
              refine ex_iload (pc := 81) d_Md_counts_81 rfl ?_
              refine ex_if_eq (tgt := 111) (pc := 83) d_Md_counts_83 (by decide) (fun _ => ?_) (fun g => absurd g (by decide))
              refine ex_iconst (w := 0) (pc := 111) d_Md_counts_111 (by decide) ?_
              exact ex_ret_z (pc := 112) d_Md_counts_112 rfl (Or.inl rfl) h
      · replace h := h.2 g
        refine ex_iconst (w := 1) (pc := 43) d_Md_counts_43 (by decide) ?_
        refine ex_goto (tgt := 48) (pc := 44) d_Md_counts_44 (by decide) ?_
        refine ex_istore (ls2 := [_, _, _, _, _, _, _]) (pc := 48) d_Md_counts_48 (Nat.le_of_ble_eq_true rfl) rfl ?_
        refine ex_aload_n (pc := 50) d_Md_counts_50 rfl ?_
        refine ex_getR (pc := 51) d_Md_counts_51 rfl rfl k1 ?_
        refine ex_iload_n (pc := 54) d_Md_counts_54 rfl ?_
        obtain ⟨q38, e39, h⟩ := h
        obtain ⟨k40, h⟩ := h
        obtain ⟨b41, h⟩ := h
        refine ex_iald (pc := 55) d_Md_counts_55 e39 k40 b41 ?_
        refine ex_iload_n (pc := 56) d_Md_counts_56 rfl ?_
        refine ex_icmp_eq (tgt := 74) (pc := 57) d_Md_counts_57 (by decide) (fun g => ?_) (fun g => ?_)
        · replace h := h.1 g
          refine ex_iconst (w := 1) (pc := 74) d_Md_counts_74 (by decide) ?_
          refine ex_goto (tgt := 79) (pc := 75) d_Md_counts_75 (by decide) ?_
          refine ex_istore (ls2 := [_, _, _, _, _, _, _]) (pc := 79) d_Md_counts_79 (Nat.le_of_ble_eq_true rfl) rfl ?_
          refine ex_iload (pc := 81) d_Md_counts_81 rfl ?_
          refine ex_if_eq (tgt := 111) (pc := 83) d_Md_counts_83 (by decide) (fun g => absurd g (by decide)) (fun _ => ?_)
          refine ex_iload (pc := 86) d_Md_counts_86 rfl ?_
          refine ex_if_eq (tgt := 111) (pc := 88) d_Md_counts_88 (by decide) (fun g => absurd g (by decide)) (fun _ => ?_)
          refine ex_aload_n (pc := 91) d_Md_counts_91 rfl ?_
          refine ex_getR (pc := 92) d_Md_counts_92 rfl rfl k1 ?_
          refine ex_iload_n (pc := 95) d_Md_counts_95 rfl ?_
          obtain ⟨b42, h⟩ := h
          refine ex_iald (pc := 96) d_Md_counts_96 e17 k18 b42 ?_
          refine ex_iload_n (pc := 97) d_Md_counts_97 rfl ?_
          refine ex_icmp_ne (tgt := 111) (pc := 98) d_Md_counts_98 (by decide) (fun g => ?_) (fun g => ?_)
          · replace h := h.1 g
            refine ex_iconst (w := 0) (pc := 111) d_Md_counts_111 (by decide) ?_
            exact ex_ret_z (pc := 112) d_Md_counts_112 rfl (Or.inl rfl) h
          · replace h := h.2 g
            refine ex_aload_n (pc := 101) d_Md_counts_101 rfl ?_
            refine ex_getR (pc := 102) d_Md_counts_102 rfl rfl k1 ?_
            refine ex_iload_n (pc := 105) d_Md_counts_105 rfl ?_
            obtain ⟨q43, e44, h⟩ := h
            obtain ⟨k45, h⟩ := h
            obtain ⟨b46, h⟩ := h
            refine ex_iald (pc := 106) d_Md_counts_106 e44 k45 b46 ?_
            refine ex_iconst (w := 3) (pc := 107) d_Md_counts_107 (by decide) ?_
            refine ex_icmp_le (tgt := 113) (pc := 108) d_Md_counts_108 (by decide) (fun g => ?_) (fun g => ?_)
            · replace h := h.1 g
              refine ex_drop (k := 2) (ls2 := [_, _, _, _, _, _, _]) rfl ?_
              refine ex_drop (k := 3) (ls2 := [_, _, _, _, _, _, _]) rfl ?_
              refine ex_drop (k := 4) (ls2 := [_, _, _, _, _, _, _]) rfl ?_
              refine ex_drop (k := 5) (ls2 := [_, _, _, _, _, _, _]) rfl ?_
              exact h
            · replace h := h.2 g
              refine ex_iconst (w := 0) (pc := 111) d_Md_counts_111 (by decide) ?_
              exact ex_ret_z (pc := 112) d_Md_counts_112 rfl (Or.inl rfl) h
        · replace h := h.2 g
          refine ex_iload_n (pc := 60) d_Md_counts_60 rfl ?_
          refine ex_iconst (w := 1) (pc := 61) d_Md_counts_61 (by decide) ?_
          refine ex_icmp_ne (tgt := 78) (pc := 62) d_Md_counts_62 (by decide) (fun g => ?_) (fun g => ?_)
          · replace h := h.1 g
            refine ex_iconst (w := 0) (pc := 78) d_Md_counts_78 (by decide) ?_
            refine ex_istore (ls2 := [_, _, _, _, _, _, _]) (pc := 79) d_Md_counts_79 (Nat.le_of_ble_eq_true rfl) rfl ?_
            refine ex_iload (pc := 81) d_Md_counts_81 rfl ?_
            refine ex_if_eq (tgt := 111) (pc := 83) d_Md_counts_83 (by decide) (fun g => absurd g (by decide)) (fun _ => ?_)
            refine ex_iload (pc := 86) d_Md_counts_86 rfl ?_
            refine ex_if_eq (tgt := 111) (pc := 88) d_Md_counts_88 (by decide) (fun _ => ?_) (fun g => absurd g (by decide))
            refine ex_iconst (w := 0) (pc := 111) d_Md_counts_111 (by decide) ?_
            exact ex_ret_z (pc := 112) d_Md_counts_112 rfl (Or.inl rfl) h
          · replace h := h.2 g
            refine ex_aload_n (pc := 65) d_Md_counts_65 rfl ?_
            refine ex_getR (pc := 66) d_Md_counts_66 rfl rfl k1 ?_
            refine ex_iload_n (pc := 69) d_Md_counts_69 rfl ?_
            obtain ⟨b47, h⟩ := h
            refine ex_iald (pc := 70) d_Md_counts_70 e39 k40 b47 ?_
            refine ex_if_ne (tgt := 78) (pc := 71) d_Md_counts_71 (by decide) (fun g => ?_) (fun g => ?_)
            · replace h := h.1 g
              refine ex_iconst (w := 0) (pc := 78) d_Md_counts_78 (by decide) ?_
              refine ex_istore (ls2 := [_, _, _, _, _, _, _]) (pc := 79) d_Md_counts_79 (Nat.le_of_ble_eq_true rfl) rfl ?_
              refine ex_iload (pc := 81) d_Md_counts_81 rfl ?_
              refine ex_if_eq (tgt := 111) (pc := 83) d_Md_counts_83 (by decide) (fun g => absurd g (by decide)) (fun _ => ?_)
              refine ex_iload (pc := 86) d_Md_counts_86 rfl ?_
              refine ex_if_eq (tgt := 111) (pc := 88) d_Md_counts_88 (by decide) (fun _ => ?_) (fun g => absurd g (by decide))
              refine ex_iconst (w := 0) (pc := 111) d_Md_counts_111 (by decide) ?_
              exact ex_ret_z (pc := 112) d_Md_counts_112 rfl (Or.inl rfl) h
            · replace h := h.2 g
              refine ex_iconst (w := 1) (pc := 74) d_Md_counts_74 (by decide) ?_
              refine ex_goto (tgt := 79) (pc := 75) d_Md_counts_75 (by decide) ?_
              refine ex_istore (ls2 := [_, _, _, _, _, _, _]) (pc := 79) d_Md_counts_79 (Nat.le_of_ble_eq_true rfl) rfl ?_
              refine ex_iload (pc := 81) d_Md_counts_81 rfl ?_
              refine ex_if_eq (tgt := 111) (pc := 83) d_Md_counts_83 (by decide) (fun g => absurd g (by decide)) (fun _ => ?_)
              refine ex_iload (pc := 86) d_Md_counts_86 rfl ?_
              refine ex_if_eq (tgt := 111) (pc := 88) d_Md_counts_88 (by decide) (fun g => absurd g (by decide)) (fun _ => ?_)
              refine ex_aload_n (pc := 91) d_Md_counts_91 rfl ?_
              refine ex_getR (pc := 92) d_Md_counts_92 rfl rfl k1 ?_
              refine ex_iload_n (pc := 95) d_Md_counts_95 rfl ?_
              obtain ⟨b48, h⟩ := h
              refine ex_iald (pc := 96) d_Md_counts_96 e17 k18 b48 ?_
              refine ex_iload_n (pc := 97) d_Md_counts_97 rfl ?_
              refine ex_icmp_ne (tgt := 111) (pc := 98) d_Md_counts_98 (by decide) (fun g => ?_) (fun g => ?_)
              · replace h := h.1 g
                refine ex_iconst (w := 0) (pc := 111) d_Md_counts_111 (by decide) ?_
                exact ex_ret_z (pc := 112) d_Md_counts_112 rfl (Or.inl rfl) h
              · replace h := h.2 g
                refine ex_aload_n (pc := 101) d_Md_counts_101 rfl ?_
                refine ex_getR (pc := 102) d_Md_counts_102 rfl rfl k1 ?_
                refine ex_iload_n (pc := 105) d_Md_counts_105 rfl ?_
                obtain ⟨q49, e50, h⟩ := h
                obtain ⟨k51, h⟩ := h
                obtain ⟨b52, h⟩ := h
                refine ex_iald (pc := 106) d_Md_counts_106 e50 k51 b52 ?_
                refine ex_iconst (w := 3) (pc := 107) d_Md_counts_107 (by decide) ?_
                refine ex_icmp_le (tgt := 113) (pc := 108) d_Md_counts_108 (by decide) (fun g => ?_) (fun g => ?_)
                · replace h := h.1 g
                  refine ex_drop (k := 2) (ls2 := [_, _, _, _, _, _, _]) rfl ?_
                  refine ex_drop (k := 3) (ls2 := [_, _, _, _, _, _, _]) rfl ?_
                  refine ex_drop (k := 4) (ls2 := [_, _, _, _, _, _, _]) rfl ?_
                  refine ex_drop (k := 5) (ls2 := [_, _, _, _, _, _, _]) rfl ?_
                  exact h
                · replace h := h.2 g
                  refine ex_iconst (w := 0) (pc := 111) d_Md_counts_111 (by decide) ?_
                  exact ex_ret_z (pc := 112) d_Md_counts_112 rfl (Or.inl rfl) h
theorem sg_Md_counts_113 {h0 : Nat} {v1 : Int32} {M : me_M} {Q : Option me_V → me_M → Prop} (h : mKd M h0 = 11 ∧ ∃ q2, (mR M 1658 h0 0) = some q2 ∧ mKd M q2 = 100 ∧ vp_in v1 (mLn M q2) ∧ ∀ x6, x6 = ((4 * v1) + (mI M 100 q2 v1.toNatClampNeg)) → ∃ q7, (mR M 1668 h0 0) = some q7 ∧ mKd M q7 = 100 ∧ vp_in 441 (mLn M q7) ∧ ∃ q11, (mR M 1659 h0 0) = some q11 ∧ mKd M q11 = 100 ∧ vp_in x6 (mLn M q11) ∧ ∀ M15, M15 = mSetI M 100 q11 x6.toNatClampNeg (mI M 100 q7 (441 : Int32).toNatClampNeg) → ∃ q16, (mR M15 1668 h0 0) = some q16 ∧ mKd M15 q16 = 100 ∧ vp_in 445 (mLn M15 q16) ∧ ∃ q20, (mR M15 1661 h0 0) = some q20 ∧ mKd M15 q20 = 100 ∧ vp_in x6 (mLn M15 q20) ∧ ∀ M24, M24 = mSetI M15 100 q20 x6.toNatClampNeg (mI M15 100 q16 (445 : Int32).toNatClampNeg) → ∃ q25, (mR M24 1668 h0 0) = some q25 ∧ mKd M24 q25 = 100 ∧ vp_in 446 (mLn M24 q25) ∧ ∃ q29, (mR M24 1662 h0 0) = some q29 ∧ mKd M24 q29 = 100 ∧ vp_in x6 (mLn M24 q29) ∧ ∀ M33, M33 = mSetI M24 100 q29 x6.toNatClampNeg (mI M24 100 q25 (446 : Int32).toNatClampNeg) → ∃ q34, (mR M33 1668 h0 0) = some q34 ∧ mKd M33 q34 = 100 ∧ vp_in 447 (mLn M33 q34) ∧ ∃ q38, (mR M33 1663 h0 0) = some q38 ∧ mKd M33 q38 = 100 ∧ vp_in x6 (mLn M33 q38) ∧ ∀ M42, M42 = mSetI M33 100 q38 x6.toNatClampNeg (mI M33 100 q34 (447 : Int32).toNatClampNeg) → ∃ q43, (mR M42 1668 h0 0) = some q43 ∧ mKd M42 q43 = 100 ∧ vp_in 448 (mLn M42 q43) ∧ ∃ q47, (mR M42 1664 h0 0) = some q47 ∧ mKd M42 q47 = 100 ∧ vp_in x6 (mLn M42 q47) ∧ ∀ M51, M51 = mSetI M42 100 q47 x6.toNatClampNeg (mI M42 100 q43 (448 : Int32).toNatClampNeg) → ∃ q52, (mR M51 1668 h0 0) = some q52 ∧ mKd M51 q52 = 100 ∧ vp_in 449 (mLn M51 q52) ∧ ∃ q56, (mR M51 1660 h0 0) = some q56 ∧ mKd M51 q56 = 100 ∧ vp_in x6 (mLn M51 q56) ∧ ∀ M60, M60 = mSetI M51 100 q56 x6.toNatClampNeg (mI M51 100 q52 (449 : Int32).toNatClampNeg) → ∃ q61, (mR M60 1668 h0 0) = some q61 ∧ mKd M60 q61 = 100 ∧ vp_in 450 (mLn M60 q61) ∧ ∃ q65, (mR M60 1665 h0 0) = some q65 ∧ mKd M60 q65 = 100 ∧ vp_in x6 (mLn M60 q65) ∧ ∀ M69, M69 = mSetI M60 100 q65 x6.toNatClampNeg (mI M60 100 q61 (450 : Int32).toNatClampNeg) → ∃ q70, (mR M69 1658 h0 0) = some q70 ∧ mKd M69 q70 = 100 ∧ vp_in v1 (mLn M69 q70) ∧ vp_in v1 (mLn M69 q70) ∧ ∀ M75, M75 = mSetI M69 100 q70 v1.toNatClampNeg ((mI M69 100 q70 v1.toNatClampNeg) + 1) → Q (some (.inl 1)) M75) : EX eL X_Md_counts 113 [some (.inr (some h0)), some (.inl v1), none, none, none, none, none] [] M Q := by
  refine ex_iconst (w := 4) (pc := 113) d_Md_counts_113 (by decide) ?_
  refine ex_iload_n (pc := 114) d_Md_counts_114 rfl ?_
  refine ex_imul (pc := 115) d_Md_counts_115 ?_
  refine ex_aload_n (pc := 116) d_Md_counts_116 rfl ?_
  obtain ⟨k1, h⟩ := h
  refine ex_getR (pc := 117) d_Md_counts_117 rfl rfl k1 ?_
  refine ex_iload_n (pc := 120) d_Md_counts_120 rfl ?_
  obtain ⟨q2, e3, h⟩ := h
  obtain ⟨k4, h⟩ := h
  obtain ⟨b5, h⟩ := h
  refine ex_iald (pc := 121) d_Md_counts_121 e3 k4 b5 ?_
  refine ex_iadd (pc := 122) d_Md_counts_122 ?_
  refine ex_istore (ls2 := [_, _, _, _, _, _, _]) (pc := 123) d_Md_counts_123 (Nat.le_of_ble_eq_true rfl) rfl ?_
  replace h := h _ rfl
  refine ex_aload_n (pc := 125) d_Md_counts_125 rfl ?_
  refine ex_getR (pc := 126) d_Md_counts_126 rfl rfl k1 ?_
  refine ex_iload (pc := 129) d_Md_counts_129 rfl ?_
  refine ex_aload_n (pc := 131) d_Md_counts_131 rfl ?_
  refine ex_getR (pc := 132) d_Md_counts_132 rfl rfl k1 ?_
  refine ex_sipush (w := 441) (pc := 135) d_Md_counts_135 (by decide) ?_
  obtain ⟨q7, e8, h⟩ := h
  obtain ⟨k9, h⟩ := h
  obtain ⟨b10, h⟩ := h
  refine ex_iald (pc := 138) d_Md_counts_138 e8 k9 b10 ?_
  obtain ⟨q11, e12, h⟩ := h
  obtain ⟨k13, h⟩ := h
  obtain ⟨b14, h⟩ := h
  refine ex_iast (pc := 139) d_Md_counts_139 e12 k13 b14 ?_
  replace h := h _ rfl
  refine ex_aload_n (pc := 140) d_Md_counts_140 rfl ?_
  refine ex_getR (pc := 141) d_Md_counts_141 rfl rfl k1 ?_
  refine ex_iload (pc := 144) d_Md_counts_144 rfl ?_
  refine ex_aload_n (pc := 146) d_Md_counts_146 rfl ?_
  refine ex_getR (pc := 147) d_Md_counts_147 rfl rfl k1 ?_
  refine ex_sipush (w := 445) (pc := 150) d_Md_counts_150 (by decide) ?_
  obtain ⟨q16, e17, h⟩ := h
  obtain ⟨k18, h⟩ := h
  obtain ⟨b19, h⟩ := h
  refine ex_iald (pc := 153) d_Md_counts_153 e17 k18 b19 ?_
  obtain ⟨q20, e21, h⟩ := h
  obtain ⟨k22, h⟩ := h
  obtain ⟨b23, h⟩ := h
  refine ex_iast (pc := 154) d_Md_counts_154 e21 k22 b23 ?_
  replace h := h _ rfl
  refine ex_aload_n (pc := 155) d_Md_counts_155 rfl ?_
  refine ex_getR (pc := 156) d_Md_counts_156 rfl rfl k1 ?_
  refine ex_iload (pc := 159) d_Md_counts_159 rfl ?_
  refine ex_aload_n (pc := 161) d_Md_counts_161 rfl ?_
  refine ex_getR (pc := 162) d_Md_counts_162 rfl rfl k1 ?_
  refine ex_sipush (w := 446) (pc := 165) d_Md_counts_165 (by decide) ?_
  obtain ⟨q25, e26, h⟩ := h
  obtain ⟨k27, h⟩ := h
  obtain ⟨b28, h⟩ := h
  refine ex_iald (pc := 168) d_Md_counts_168 e26 k27 b28 ?_
  obtain ⟨q29, e30, h⟩ := h
  obtain ⟨k31, h⟩ := h
  obtain ⟨b32, h⟩ := h
  refine ex_iast (pc := 169) d_Md_counts_169 e30 k31 b32 ?_
  replace h := h _ rfl
  refine ex_aload_n (pc := 170) d_Md_counts_170 rfl ?_
  refine ex_getR (pc := 171) d_Md_counts_171 rfl rfl k1 ?_
  refine ex_iload (pc := 174) d_Md_counts_174 rfl ?_
  refine ex_aload_n (pc := 176) d_Md_counts_176 rfl ?_
  refine ex_getR (pc := 177) d_Md_counts_177 rfl rfl k1 ?_
  refine ex_sipush (w := 447) (pc := 180) d_Md_counts_180 (by decide) ?_
  obtain ⟨q34, e35, h⟩ := h
  obtain ⟨k36, h⟩ := h
  obtain ⟨b37, h⟩ := h
  refine ex_iald (pc := 183) d_Md_counts_183 e35 k36 b37 ?_
  obtain ⟨q38, e39, h⟩ := h
  obtain ⟨k40, h⟩ := h
  obtain ⟨b41, h⟩ := h
  refine ex_iast (pc := 184) d_Md_counts_184 e39 k40 b41 ?_
  replace h := h _ rfl
  refine ex_aload_n (pc := 185) d_Md_counts_185 rfl ?_
  refine ex_getR (pc := 186) d_Md_counts_186 rfl rfl k1 ?_
  refine ex_iload (pc := 189) d_Md_counts_189 rfl ?_
  refine ex_aload_n (pc := 191) d_Md_counts_191 rfl ?_
  refine ex_getR (pc := 192) d_Md_counts_192 rfl rfl k1 ?_
  refine ex_sipush (w := 448) (pc := 195) d_Md_counts_195 (by decide) ?_
  obtain ⟨q43, e44, h⟩ := h
  obtain ⟨k45, h⟩ := h
  obtain ⟨b46, h⟩ := h
  refine ex_iald (pc := 198) d_Md_counts_198 e44 k45 b46 ?_
  obtain ⟨q47, e48, h⟩ := h
  obtain ⟨k49, h⟩ := h
  obtain ⟨b50, h⟩ := h
  refine ex_iast (pc := 199) d_Md_counts_199 e48 k49 b50 ?_
  replace h := h _ rfl
  refine ex_aload_n (pc := 200) d_Md_counts_200 rfl ?_
  refine ex_getR (pc := 201) d_Md_counts_201 rfl rfl k1 ?_
  refine ex_iload (pc := 204) d_Md_counts_204 rfl ?_
  refine ex_aload_n (pc := 206) d_Md_counts_206 rfl ?_
  refine ex_getR (pc := 207) d_Md_counts_207 rfl rfl k1 ?_
  refine ex_sipush (w := 449) (pc := 210) d_Md_counts_210 (by decide) ?_
  obtain ⟨q52, e53, h⟩ := h
  obtain ⟨k54, h⟩ := h
  obtain ⟨b55, h⟩ := h
  refine ex_iald (pc := 213) d_Md_counts_213 e53 k54 b55 ?_
  obtain ⟨q56, e57, h⟩ := h
  obtain ⟨k58, h⟩ := h
  obtain ⟨b59, h⟩ := h
  refine ex_iast (pc := 214) d_Md_counts_214 e57 k58 b59 ?_
  replace h := h _ rfl
  refine ex_aload_n (pc := 215) d_Md_counts_215 rfl ?_
  refine ex_getR (pc := 216) d_Md_counts_216 rfl rfl k1 ?_
  refine ex_iload (pc := 219) d_Md_counts_219 rfl ?_
  refine ex_aload_n (pc := 221) d_Md_counts_221 rfl ?_
  refine ex_getR (pc := 222) d_Md_counts_222 rfl rfl k1 ?_
  refine ex_sipush (w := 450) (pc := 225) d_Md_counts_225 (by decide) ?_
  obtain ⟨q61, e62, h⟩ := h
  obtain ⟨k63, h⟩ := h
  obtain ⟨b64, h⟩ := h
  refine ex_iald (pc := 228) d_Md_counts_228 e62 k63 b64 ?_
  obtain ⟨q65, e66, h⟩ := h
  obtain ⟨k67, h⟩ := h
  obtain ⟨b68, h⟩ := h
  refine ex_iast (pc := 229) d_Md_counts_229 e66 k67 b68 ?_
  replace h := h _ rfl
  refine ex_aload_n (pc := 230) d_Md_counts_230 rfl ?_
  refine ex_getR (pc := 231) d_Md_counts_231 rfl rfl k1 ?_
  refine ex_iload_n (pc := 234) d_Md_counts_234 rfl ?_
  refine ex_dup2 (pc := 235) d_Md_counts_235 ?_
  obtain ⟨q70, e71, h⟩ := h
  obtain ⟨k72, h⟩ := h
  obtain ⟨b73, h⟩ := h
  refine ex_iald (pc := 236) d_Md_counts_236 e71 k72 b73 ?_
  refine ex_iconst (w := 1) (pc := 237) d_Md_counts_237 (by decide) ?_
  refine ex_iadd (pc := 238) d_Md_counts_238 ?_
  obtain ⟨b74, h⟩ := h
  refine ex_iast (pc := 239) d_Md_counts_239 e71 k72 b74 ?_
  replace h := h _ rfl
  refine ex_iconst (w := 1) (pc := 240) d_Md_counts_240 (by decide) ?_
  exact ex_ret_z (pc := 241) d_Md_counts_241 rfl (Or.inr rfl) h
theorem sg_Md_finish_0 {h0 : Nat} {v1 : Int32} {v2 : Int32} {v3 : Int32} {v4 : Int32} {M : me_M} {Q : Option me_V → me_M → Prop} (h : ∀ x1, x1 = ((30 * v1) + v2) → mKd M h0 = 11 ∧ ∃ q3, (mR M 1646 h0 0) = some q3 ∧ mKd M q3 = 100 ∧ vp_in x1 (mLn M q3) ∧ ∀ M7, M7 = mSetI M 100 q3 x1.toNatClampNeg 3 → ∃ q8, (mR M7 1649 h0 0) = some q8 ∧ mKd M7 q8 = 100 ∧ vp_in x1 (mLn M7 q8) ∧ ∀ M12, M12 = mSetI M7 100 q8 x1.toNatClampNeg v3 → ∃ q13, (mR M12 1650 h0 0) = some q13 ∧ mKd M12 q13 = 100 ∧ vp_in x1 (mLn M12 q13) ∧ ∀ M17, M17 = mSetI M12 100 q13 x1.toNatClampNeg v4 → EX eL X_Md_sendAll 0 [some (.inr (some h0)), some (.inl 4), some (.inl v1), some (.inl v2), some (.inl 0), none] [] M17 (fun r19 M18 => r19 = none ∧ Q none M18)) : EX eL X_Md_finish 0 [some (.inr (some h0)), some (.inl v1), some (.inl v2), some (.inl v3), some (.inl v4), none] [] M Q := by
  refine ex_bipush (w := 30) (pc := 0) d_Md_finish_0 (by decide) ?_
  refine ex_iload_n (pc := 2) d_Md_finish_2 rfl ?_
  refine ex_imul (pc := 3) d_Md_finish_3 ?_
  refine ex_iload_n (pc := 4) d_Md_finish_4 rfl ?_
  refine ex_iadd (pc := 5) d_Md_finish_5 ?_
  refine ex_istore (ls2 := [_, _, _, _, _, _]) (pc := 6) d_Md_finish_6 (Nat.le_of_ble_eq_true rfl) rfl ?_
  replace h := h _ rfl
  refine ex_aload_n (pc := 8) d_Md_finish_8 rfl ?_
  obtain ⟨k2, h⟩ := h
  refine ex_getR (pc := 9) d_Md_finish_9 rfl rfl k2 ?_
  refine ex_iload (pc := 12) d_Md_finish_12 rfl ?_
  refine ex_iconst (w := 3) (pc := 14) d_Md_finish_14 (by decide) ?_
  obtain ⟨q3, e4, h⟩ := h
  obtain ⟨k5, h⟩ := h
  obtain ⟨b6, h⟩ := h
  refine ex_iast (pc := 15) d_Md_finish_15 e4 k5 b6 ?_
  replace h := h _ rfl
  refine ex_aload_n (pc := 16) d_Md_finish_16 rfl ?_
  refine ex_getR (pc := 17) d_Md_finish_17 rfl rfl k2 ?_
  refine ex_iload (pc := 20) d_Md_finish_20 rfl ?_
  refine ex_iload_n (pc := 22) d_Md_finish_22 rfl ?_
  obtain ⟨q8, e9, h⟩ := h
  obtain ⟨k10, h⟩ := h
  obtain ⟨b11, h⟩ := h
  refine ex_iast (pc := 23) d_Md_finish_23 e9 k10 b11 ?_
  replace h := h _ rfl
  refine ex_aload_n (pc := 24) d_Md_finish_24 rfl ?_
  refine ex_getR (pc := 25) d_Md_finish_25 rfl rfl k2 ?_
  refine ex_iload (pc := 28) d_Md_finish_28 rfl ?_
  refine ex_iload (pc := 30) d_Md_finish_30 rfl ?_
  obtain ⟨q13, e14, h⟩ := h
  obtain ⟨k15, h⟩ := h
  obtain ⟨b16, h⟩ := h
  refine ex_iast (pc := 32) d_Md_finish_32 e14 k15 b16 ?_
  replace h := h _ rfl
  refine ex_aload_n (pc := 33) d_Md_finish_33 rfl ?_
  refine ex_iconst (w := 4) (pc := 34) d_Md_finish_34 (by decide) ?_
  refine ex_iload_n (pc := 35) d_Md_finish_35 rfl ?_
  refine ex_iload_n (pc := 36) d_Md_finish_36 rfl ?_
  refine ex_iconst (w := 0) (pc := 37) d_Md_finish_37 (by decide) ?_
  refine ex_cVV (as := [_, _, _, _]) (st := []) (pc := 38) rfl rfl k2 rfl rfl rfl (Nat.le_of_ble_eq_true rfl) (EX.mono h fun r19 M18 h => ?_)
  obtain ⟨rfl, h⟩ := h
  refine ⟨rfl, ?_⟩
  exact ex_ret_v (pc := 41) d_Md_finish_41 rfl h
theorem sg_Md_start_0 {h0 : Nat} {v1 : Int32} {v2 : Int32} {v3 : Int32} {M : me_M} {Q : Option me_V → me_M → Prop} (h : mKd M h0 = 11 ∧ ∃ q2, (mR M 1655 h0 0) = some q2 ∧ mKd M q2 = 101 ∧ vp_in v1 (mLn M q2) ∧ ∀ M6, M6 = mSetI M 101 q2 v1.toNatClampNeg 1 → ∃ q7, (mR M6 1656 h0 0) = some q7 ∧ mKd M6 q7 = 100 ∧ vp_in v1 (mLn M6 q7) ∧ ∀ M11, M11 = mSetI M6 100 q7 v1.toNatClampNeg v2 → ∃ q12, (mR M11 1657 h0 0) = some q12 ∧ mKd M11 q12 = 100 ∧ vp_in v1 (mLn M11 q12) ∧ ∀ M16, M16 = mSetI M11 100 q12 v1.toNatClampNeg v3 → ∃ q17, (mR M16 1658 h0 0) = some q17 ∧ mKd M16 q17 = 100 ∧ vp_in v1 (mLn M16 q17) ∧ ∀ M21, M21 = mSetI M16 100 q17 v1.toNatClampNeg 0 → Q none M21) : EX eL X_Md_start 0 [some (.inr (some h0)), some (.inl v1), some (.inl v2), some (.inl v3)] [] M Q := by
  refine ex_aload_n (pc := 0) d_Md_start_0 rfl ?_
  obtain ⟨k1, h⟩ := h
  refine ex_getR (pc := 1) d_Md_start_1 rfl rfl k1 ?_
  refine ex_iload_n (pc := 4) d_Md_start_4 rfl ?_
  refine ex_iconst (w := 1) (pc := 5) d_Md_start_5 (by decide) ?_
  obtain ⟨q2, e3, h⟩ := h
  obtain ⟨k4, h⟩ := h
  obtain ⟨b5, h⟩ := h
  refine ex_zast (pc := 6) d_Md_start_6 e3 k4 b5 (Or.inr rfl) ?_
  replace h := h _ rfl
  refine ex_aload_n (pc := 7) d_Md_start_7 rfl ?_
  refine ex_getR (pc := 8) d_Md_start_8 rfl rfl k1 ?_
  refine ex_iload_n (pc := 11) d_Md_start_11 rfl ?_
  refine ex_iload_n (pc := 12) d_Md_start_12 rfl ?_
  obtain ⟨q7, e8, h⟩ := h
  obtain ⟨k9, h⟩ := h
  obtain ⟨b10, h⟩ := h
  refine ex_iast (pc := 13) d_Md_start_13 e8 k9 b10 ?_
  replace h := h _ rfl
  refine ex_aload_n (pc := 14) d_Md_start_14 rfl ?_
  refine ex_getR (pc := 15) d_Md_start_15 rfl rfl k1 ?_
  refine ex_iload_n (pc := 18) d_Md_start_18 rfl ?_
  refine ex_iload_n (pc := 19) d_Md_start_19 rfl ?_
  obtain ⟨q12, e13, h⟩ := h
  obtain ⟨k14, h⟩ := h
  obtain ⟨b15, h⟩ := h
  refine ex_iast (pc := 20) d_Md_start_20 e13 k14 b15 ?_
  replace h := h _ rfl
  refine ex_aload_n (pc := 21) d_Md_start_21 rfl ?_
  refine ex_getR (pc := 22) d_Md_start_22 rfl rfl k1 ?_
  refine ex_iload_n (pc := 25) d_Md_start_25 rfl ?_
  refine ex_iconst (w := 0) (pc := 26) d_Md_start_26 (by decide) ?_
  obtain ⟨q17, e18, h⟩ := h
  obtain ⟨k19, h⟩ := h
  obtain ⟨b20, h⟩ := h
  refine ex_iast (pc := 27) d_Md_start_27 e18 k19 b20 ?_
  replace h := h _ rfl
  exact ex_ret_v (pc := 28) d_Md_start_28 rfl h
theorem sg_Md_agree_0 {h0 : Nat} {v1 : Int32} {v2 : Int32} {v3 : Int32} {v4 : Int32} {v5 : Int32} {v6 : Int32} {M : me_M} {Q : Option me_V → me_M → Prop} (h : ∀ x1, x1 = ((30 * v1) + v2) → mKd M h0 = 11 ∧ EX eL X_Md_put 0 [some (.inr (some h0)), some (.inl x1), some (.inl 2), some (.inl v3), some (.inl v4)] [] M (fun r4 M3 => r4 = none ∧ mKd M3 h0 = 11 ∧ ∃ q6, (mR M3 1649 h0 0) = some q6 ∧ mKd M3 q6 = 100 ∧ vp_in x1 (mLn M3 q6) ∧ ∀ M10, M10 = mSetI M3 100 q6 x1.toNatClampNeg v5 → ∃ q11, (mR M10 1650 h0 0) = some q11 ∧ mKd M10 q11 = 100 ∧ vp_in x1 (mLn M10 q11) ∧ ∀ M15, M15 = mSetI M10 100 q11 x1.toNatClampNeg v6 → ∃ q16, (mR M15 1657 h0 0) = some q16 ∧ mKd M15 q16 = 100 ∧ vp_in x1 (mLn M15 q16) ∧ ∃ q20, (mR M15 1652 h0 0) = some q20 ∧ mKd M15 q20 = 100 ∧ vp_in x1 (mLn M15 q20) ∧ ∀ M24, M24 = mSetI M15 100 q20 x1.toNatClampNeg (mI M15 100 q16 x1.toNatClampNeg) → ∃ q25, (mR M24 1657 h0 0) = some q25 ∧ mKd M24 q25 = 100 ∧ vp_in x1 (mLn M24 q25) ∧ EX eL X_Md_start 0 [some (.inr (some h0)), some (.inl x1), some (.inl 2), some (.inl (mI M24 100 q25 x1.toNatClampNeg))] [] M24 (fun r30 M29 => r30 = none ∧ mKd M29 h0 = 11 ∧ ∃ q32, (mR M29 1657 h0 0) = some q32 ∧ mKd M29 q32 = 100 ∧ vp_in x1 (mLn M29 q32) ∧ EX eL X_Md_sendAll 0 [some (.inr (some h0)), some (.inl 2), some (.inl v1), some (.inl v2), some (.inl (mI M29 100 q32 x1.toNatClampNeg)), none] [] M29 (fun r37 M36 => r37 = none ∧ Q none M36)))) : EX eL X_Md_agree 0 [some (.inr (some h0)), some (.inl v1), some (.inl v2), some (.inl v3), some (.inl v4), some (.inl v5), some (.inl v6), none] [] M Q := by
  refine ex_bipush (w := 30) (pc := 0) d_Md_agree_0 (by decide) ?_
  refine ex_iload_n (pc := 2) d_Md_agree_2 rfl ?_
  refine ex_imul (pc := 3) d_Md_agree_3 ?_
  refine ex_iload_n (pc := 4) d_Md_agree_4 rfl ?_
  refine ex_iadd (pc := 5) d_Md_agree_5 ?_
  refine ex_istore (ls2 := [_, _, _, _, _, _, _, _]) (pc := 6) d_Md_agree_6 (Nat.le_of_ble_eq_true rfl) rfl ?_
  replace h := h _ rfl
  refine ex_aload_n (pc := 8) d_Md_agree_8 rfl ?_
  refine ex_iload (pc := 9) d_Md_agree_9 rfl ?_
  refine ex_iconst (w := 2) (pc := 11) d_Md_agree_11 (by decide) ?_
  refine ex_iload_n (pc := 12) d_Md_agree_12 rfl ?_
  refine ex_iload (pc := 13) d_Md_agree_13 rfl ?_
  obtain ⟨k2, h⟩ := h
  refine ex_cVV (as := [_, _, _, _]) (st := []) (pc := 15) rfl rfl k2 rfl rfl rfl (Nat.le_of_ble_eq_true rfl) (EX.mono h fun r4 M3 h => ?_)
  obtain ⟨rfl, h⟩ := h
  refine ⟨rfl, ?_⟩
  refine ex_aload_n (pc := 18) d_Md_agree_18 rfl ?_
  obtain ⟨k5, h⟩ := h
  refine ex_getR (pc := 19) d_Md_agree_19 rfl rfl k5 ?_
  refine ex_iload (pc := 22) d_Md_agree_22 rfl ?_
  refine ex_iload (pc := 24) d_Md_agree_24 rfl ?_
  obtain ⟨q6, e7, h⟩ := h
  obtain ⟨k8, h⟩ := h
  obtain ⟨b9, h⟩ := h
  refine ex_iast (pc := 26) d_Md_agree_26 e7 k8 b9 ?_
  replace h := h _ rfl
  refine ex_aload_n (pc := 27) d_Md_agree_27 rfl ?_
  refine ex_getR (pc := 28) d_Md_agree_28 rfl rfl k5 ?_
  refine ex_iload (pc := 31) d_Md_agree_31 rfl ?_
  refine ex_iload (pc := 33) d_Md_agree_33 rfl ?_
  obtain ⟨q11, e12, h⟩ := h
  obtain ⟨k13, h⟩ := h
  obtain ⟨b14, h⟩ := h
  refine ex_iast (pc := 35) d_Md_agree_35 e12 k13 b14 ?_
  replace h := h _ rfl
  refine ex_aload_n (pc := 36) d_Md_agree_36 rfl ?_
  refine ex_getR (pc := 37) d_Md_agree_37 rfl rfl k5 ?_
  refine ex_iload (pc := 40) d_Md_agree_40 rfl ?_
  refine ex_aload_n (pc := 42) d_Md_agree_42 rfl ?_
  refine ex_getR (pc := 43) d_Md_agree_43 rfl rfl k5 ?_
  refine ex_iload (pc := 46) d_Md_agree_46 rfl ?_
  obtain ⟨q16, e17, h⟩ := h
  obtain ⟨k18, h⟩ := h
  obtain ⟨b19, h⟩ := h
  refine ex_iald (pc := 48) d_Md_agree_48 e17 k18 b19 ?_
  obtain ⟨q20, e21, h⟩ := h
  obtain ⟨k22, h⟩ := h
  obtain ⟨b23, h⟩ := h
  refine ex_iast (pc := 49) d_Md_agree_49 e21 k22 b23 ?_
  replace h := h _ rfl
  refine ex_aload_n (pc := 50) d_Md_agree_50 rfl ?_
  refine ex_iload (pc := 51) d_Md_agree_51 rfl ?_
  refine ex_iconst (w := 2) (pc := 53) d_Md_agree_53 (by decide) ?_
  refine ex_aload_n (pc := 54) d_Md_agree_54 rfl ?_
  refine ex_getR (pc := 55) d_Md_agree_55 rfl rfl k5 ?_
  refine ex_iload (pc := 58) d_Md_agree_58 rfl ?_
  obtain ⟨q25, e26, h⟩ := h
  obtain ⟨k27, h⟩ := h
  obtain ⟨b28, h⟩ := h
  refine ex_iald (pc := 60) d_Md_agree_60 e26 k27 b28 ?_
  refine ex_cVV (as := [_, _, _]) (st := []) (pc := 61) rfl rfl k5 rfl rfl rfl (Nat.le_of_ble_eq_true rfl) (EX.mono h fun r30 M29 h => ?_)
  obtain ⟨rfl, h⟩ := h
  refine ⟨rfl, ?_⟩
  refine ex_aload_n (pc := 64) d_Md_agree_64 rfl ?_
  refine ex_iconst (w := 2) (pc := 65) d_Md_agree_65 (by decide) ?_
  refine ex_iload_n (pc := 66) d_Md_agree_66 rfl ?_
  refine ex_iload_n (pc := 67) d_Md_agree_67 rfl ?_
  refine ex_aload_n (pc := 68) d_Md_agree_68 rfl ?_
  obtain ⟨k31, h⟩ := h
  refine ex_getR (pc := 69) d_Md_agree_69 rfl rfl k31 ?_
  refine ex_iload (pc := 72) d_Md_agree_72 rfl ?_
  obtain ⟨q32, e33, h⟩ := h
  obtain ⟨k34, h⟩ := h
  obtain ⟨b35, h⟩ := h
  refine ex_iald (pc := 74) d_Md_agree_74 e33 k34 b35 ?_
  refine ex_cVV (as := [_, _, _, _]) (st := []) (pc := 75) rfl rfl k31 rfl rfl rfl (Nat.le_of_ble_eq_true rfl) (EX.mono h fun r37 M36 h => ?_)
  obtain ⟨rfl, h⟩ := h
  refine ⟨rfl, ?_⟩
  exact ex_ret_v (pc := 78) d_Md_agree_78 rfl h
theorem sg_Md_afterPreaccept_0 {h0 : Nat} {v1 : Int32} {v2 : Int32} {M : me_M} {Q : Option me_V → me_M → Prop} (h : ∀ x1, x1 = ((30 * v1) + v2) → mKd M h0 = 11 ∧ ∃ q3, (mR M 1663 h0 0) = some q3 ∧ mKd M q3 = 100 ∧ vp_in (4 * x1) (mLn M q3) ∧ ∀ x7, x7 = (mI M 100 q3 (4 * x1).toNatClampNeg) → ∀ x8, x8 = (4 * x1) → EX eL X_Md_afterPreaccept 28 [some (.inr (some h0)), some (.inl v1), some (.inl v2), some (.inl x1), some (.inl 1), some (.inl x7), some (.inl 0), some (.inl x8)] [] M Q) : EX eL X_Md_afterPreaccept 0 [some (.inr (some h0)), some (.inl v1), some (.inl v2), none, none, none, none, none] [] M Q := by
  refine ex_bipush (w := 30) (pc := 0) d_Md_afterPreaccept_0 (by decide) ?_
  refine ex_iload_n (pc := 2) d_Md_afterPreaccept_2 rfl ?_
  refine ex_imul (pc := 3) d_Md_afterPreaccept_3 ?_
  refine ex_iload_n (pc := 4) d_Md_afterPreaccept_4 rfl ?_
  refine ex_iadd (pc := 5) d_Md_afterPreaccept_5 ?_
  refine ex_istore_n (ls2 := [_, _, _, _, _, _, _, _]) (pc := 6) d_Md_afterPreaccept_6 (Nat.le_of_ble_eq_true rfl) rfl ?_
  replace h := h _ rfl
  refine ex_iconst (w := 1) (pc := 7) d_Md_afterPreaccept_7 (by decide) ?_
  refine ex_istore (ls2 := [_, _, _, _, _, _, _, _]) (pc := 8) d_Md_afterPreaccept_8 (Nat.le_of_ble_eq_true rfl) rfl ?_
  refine ex_aload_n (pc := 10) d_Md_afterPreaccept_10 rfl ?_
  obtain ⟨k2, h⟩ := h
  refine ex_getR (pc := 11) d_Md_afterPreaccept_11 rfl rfl k2 ?_
  refine ex_iconst (w := 4) (pc := 14) d_Md_afterPreaccept_14 (by decide) ?_
  refine ex_iload_n (pc := 15) d_Md_afterPreaccept_15 rfl ?_
  refine ex_imul (pc := 16) d_Md_afterPreaccept_16 ?_
  obtain ⟨q3, e4, h⟩ := h
  obtain ⟨k5, h⟩ := h
  obtain ⟨b6, h⟩ := h
  refine ex_iald (pc := 17) d_Md_afterPreaccept_17 e4 k5 b6 ?_
  refine ex_istore (ls2 := [_, _, _, _, _, _, _, _]) (pc := 18) d_Md_afterPreaccept_18 (Nat.le_of_ble_eq_true rfl) rfl ?_
  replace h := h _ rfl
  refine ex_iconst (w := 0) (pc := 20) d_Md_afterPreaccept_20 (by decide) ?_
  refine ex_istore (ls2 := [_, _, _, _, _, _, _, _]) (pc := 21) d_Md_afterPreaccept_21 (Nat.le_of_ble_eq_true rfl) rfl ?_
  refine ex_iconst (w := 4) (pc := 23) d_Md_afterPreaccept_23 (by decide) ?_
  refine ex_iload_n (pc := 24) d_Md_afterPreaccept_24 rfl ?_
  refine ex_imul (pc := 25) d_Md_afterPreaccept_25 ?_
  refine ex_istore (ls2 := [_, _, _, _, _, _, _, _]) (pc := 26) d_Md_afterPreaccept_26 (Nat.le_of_ble_eq_true rfl) rfl ?_
  replace h := h _ rfl
  exact h
theorem sg_Md_afterPreaccept_28 {h0 : Nat} {v1 : Int32} {v2 : Int32} {v3 : Int32} {v4 : Int32} {v5 : Int32} {v6 : Int32} {v7 : Int32} {M : me_M} {Q : Option me_V → me_M → Prop} (h : mKd M h0 = 11 ∧ ∃ q2, (mR M 1658 h0 0) = some q2 ∧ mKd M q2 = 100 ∧ vp_in v3 (mLn M q2) ∧ ((((4 * v3) + (mI M 100 q2 v3.toNatClampNeg)) ≤ v7) → ∃ q6, (mR M 1656 h0 0) = some q6 ∧ mKd M q6 = 100 ∧ vp_in v3 (mLn M q6) ∧ ((¬ (mI M 100 q6 v3.toNatClampNeg) = 0) → vp_in v3 (mLn M q2) ∧ (((mI M 100 q2 v3.toNatClampNeg) < (mI M 1641 h0 0)) → Q none M) ∧ ((¬ (mI M 100 q2 v3.toNatClampNeg) < (mI M 1641 h0 0)) → ∃ q11, (mR M 1647 h0 0) = some q11 ∧ mKd M q11 = 100 ∧ vp_in v3 (mLn M q11) ∧ ∃ q15, (mR M 1648 h0 0) = some q15 ∧ mKd M q15 = 100 ∧ vp_in v3 (mLn M q15) ∧ EX eL X_Md_agree 0 [some (.inr (some h0)), some (.inl v1), some (.inl v2), some (.inl (mI M 100 q11 v3.toNatClampNeg)), some (.inl (mI M 100 q15 v3.toNatClampNeg)), some (.inl v5), some (.inl v6), none] [] M (fun r20 M19 => r20 = none ∧ Q none M19))) ∧ (((mI M 100 q6 v3.toNatClampNeg) = 0) → ((v4 = 0) → vp_in v3 (mLn M q2) ∧ (((mI M 100 q2 v3.toNatClampNeg) < (mI M 1641 h0 0)) → Q none M) ∧ ((¬ (mI M 100 q2 v3.toNatClampNeg) < (mI M 1641 h0 0)) → ∃ q22, (mR M 1647 h0 0) = some q22 ∧ mKd M q22 = 100 ∧ vp_in v3 (mLn M q22) ∧ ∃ q26, (mR M 1648 h0 0) = some q26 ∧ mKd M q26 = 100 ∧ vp_in v3 (mLn M q26) ∧ EX eL X_Md_agree 0 [some (.inr (some h0)), some (.inl v1), some (.inl v2), some (.inl (mI M 100 q22 v3.toNatClampNeg)), some (.inl (mI M 100 q26 v3.toNatClampNeg)), some (.inl v5), some (.inl v6), none] [] M (fun r31 M30 => r31 = none ∧ Q none M30))) ∧ ((¬ v4 = 0) → vp_in v3 (mLn M q2) ∧ ((¬ (mI M 100 q2 v3.toNatClampNeg) = ((mI M 1640 h0 0) - 2)) → Q none M) ∧ (((mI M 100 q2 v3.toNatClampNeg) = ((mI M 1640 h0 0) - 2)) → EX eL X_Md_finish 0 [some (.inr (some h0)), some (.inl v1), some (.inl v2), some (.inl v5), some (.inl v6), none] [] M (fun r34 M33 => r34 = none ∧ Q none M33))))) ∧ ((¬ ((4 * v3) + (mI M 100 q2 v3.toNatClampNeg)) ≤ v7) → ((v4 = 0) → ∃ q35, (mR M 1663 h0 0) = some q35 ∧ mKd M q35 = 100 ∧ vp_in v7 (mLn M q35) ∧ (((mI M 100 q35 v7.toNatClampNeg) ≤ v5) → ∃ q39, (mR M 1664 h0 0) = some q39 ∧ mKd M q39 = 100 ∧ vp_in v7 (mLn M q39) ∧ ∀ x43, x43 = (v6 ||| (mI M 100 q39 v7.toNatClampNeg)) → ∀ x44, x44 = v7 + Int32.ofInt 1 → EX eL X_Md_afterPreaccept 28 [some (.inr (some h0)), some (.inl v1), some (.inl v2), some (.inl v3), some (.inl 0), some (.inl v5), some (.inl x43), some (.inl x44)] [] M Q) ∧ ((¬ (mI M 100 q35 v7.toNatClampNeg) ≤ v5) → vp_in v7 (mLn M q35) ∧ ∀ x46, x46 = (mI M 100 q35 v7.toNatClampNeg) → ∃ q47, (mR M 1664 h0 0) = some q47 ∧ mKd M q47 = 100 ∧ vp_in v7 (mLn M q47) ∧ ∀ x51, x51 = (v6 ||| (mI M 100 q47 v7.toNatClampNeg)) → ∀ x52, x52 = v7 + Int32.ofInt 1 → EX eL X_Md_afterPreaccept 28 [some (.inr (some h0)), some (.inl v1), some (.inl v2), some (.inl v3), some (.inl 0), some (.inl x46), some (.inl x51), some (.inl x52)] [] M Q)) ∧ ((¬ v4 = 0) → ∃ q53, (mR M 1663 h0 0) = some q53 ∧ mKd M q53 = 100 ∧ vp_in v7 (mLn M q53) ∧ vp_in (4 * v3) (mLn M q53) ∧ ((¬ (mI M 100 q53 v7.toNatClampNeg) = (mI M 100 q53 (4 * v3).toNatClampNeg)) → vp_in v7 (mLn M q53) ∧ (((mI M 100 q53 v7.toNatClampNeg) ≤ v5) → ∃ q59, (mR M 1664 h0 0) = some q59 ∧ mKd M q59 = 100 ∧ vp_in v7 (mLn M q59) ∧ ∀ x63, x63 = (v6 ||| (mI M 100 q59 v7.toNatClampNeg)) → ∀ x64, x64 = v7 + Int32.ofInt 1 → EX eL X_Md_afterPreaccept 28 [some (.inr (some h0)), some (.inl v1), some (.inl v2), some (.inl v3), some (.inl 0), some (.inl v5), some (.inl x63), some (.inl x64)] [] M Q) ∧ ((¬ (mI M 100 q53 v7.toNatClampNeg) ≤ v5) → vp_in v7 (mLn M q53) ∧ ∀ x66, x66 = (mI M 100 q53 v7.toNatClampNeg) → ∃ q67, (mR M 1664 h0 0) = some q67 ∧ mKd M q67 = 100 ∧ vp_in v7 (mLn M q67) ∧ ∀ x71, x71 = (v6 ||| (mI M 100 q67 v7.toNatClampNeg)) → ∀ x72, x72 = v7 + Int32.ofInt 1 → EX eL X_Md_afterPreaccept 28 [some (.inr (some h0)), some (.inl v1), some (.inl v2), some (.inl v3), some (.inl 0), some (.inl x66), some (.inl x71), some (.inl x72)] [] M Q)) ∧ (((mI M 100 q53 v7.toNatClampNeg) = (mI M 100 q53 (4 * v3).toNatClampNeg)) → ∃ q73, (mR M 1664 h0 0) = some q73 ∧ mKd M q73 = 100 ∧ vp_in v7 (mLn M q73) ∧ vp_in (4 * v3) (mLn M q73) ∧ ((¬ (mI M 100 q73 v7.toNatClampNeg) = (mI M 100 q73 (4 * v3).toNatClampNeg)) → vp_in v7 (mLn M q53) ∧ (((mI M 100 q53 v7.toNatClampNeg) ≤ v5) → vp_in v7 (mLn M q73) ∧ ∀ x80, x80 = (v6 ||| (mI M 100 q73 v7.toNatClampNeg)) → ∀ x81, x81 = v7 + Int32.ofInt 1 → EX eL X_Md_afterPreaccept 28 [some (.inr (some h0)), some (.inl v1), some (.inl v2), some (.inl v3), some (.inl 0), some (.inl v5), some (.inl x80), some (.inl x81)] [] M Q) ∧ ((¬ (mI M 100 q53 v7.toNatClampNeg) ≤ v5) → vp_in v7 (mLn M q53) ∧ ∀ x83, x83 = (mI M 100 q53 v7.toNatClampNeg) → vp_in v7 (mLn M q73) ∧ ∀ x85, x85 = (v6 ||| (mI M 100 q73 v7.toNatClampNeg)) → ∀ x86, x86 = v7 + Int32.ofInt 1 → EX eL X_Md_afterPreaccept 28 [some (.inr (some h0)), some (.inl v1), some (.inl v2), some (.inl v3), some (.inl 0), some (.inl x83), some (.inl x85), some (.inl x86)] [] M Q)) ∧ (((mI M 100 q73 v7.toNatClampNeg) = (mI M 100 q73 (4 * v3).toNatClampNeg)) → vp_in v7 (mLn M q53) ∧ (((mI M 100 q53 v7.toNatClampNeg) ≤ v5) → vp_in v7 (mLn M q73) ∧ ∀ x89, x89 = (v6 ||| (mI M 100 q73 v7.toNatClampNeg)) → ∀ x90, x90 = v7 + Int32.ofInt 1 → EX eL X_Md_afterPreaccept 28 [some (.inr (some h0)), some (.inl v1), some (.inl v2), some (.inl v3), some (.inl 1), some (.inl v5), some (.inl x89), some (.inl x90)] [] M Q) ∧ ((¬ (mI M 100 q53 v7.toNatClampNeg) ≤ v5) → vp_in v7 (mLn M q53) ∧ ∀ x92, x92 = (mI M 100 q53 v7.toNatClampNeg) → vp_in v7 (mLn M q73) ∧ ∀ x94, x94 = (v6 ||| (mI M 100 q73 v7.toNatClampNeg)) → ∀ x95, x95 = v7 + Int32.ofInt 1 → EX eL X_Md_afterPreaccept 28 [some (.inr (some h0)), some (.inl v1), some (.inl v2), some (.inl v3), some (.inl 1), some (.inl x92), some (.inl x94), some (.inl x95)] [] M Q)))))) : EX eL X_Md_afterPreaccept 28 [some (.inr (some h0)), some (.inl v1), some (.inl v2), some (.inl v3), some (.inl v4), some (.inl v5), some (.inl v6), some (.inl v7)] [] M Q := by
  refine ex_iload (pc := 28) d_Md_afterPreaccept_28 rfl ?_
  refine ex_iconst (w := 4) (pc := 30) d_Md_afterPreaccept_30 (by decide) ?_
  refine ex_iload_n (pc := 31) d_Md_afterPreaccept_31 rfl ?_
  refine ex_imul (pc := 32) d_Md_afterPreaccept_32 ?_
  refine ex_aload_n (pc := 33) d_Md_afterPreaccept_33 rfl ?_
  obtain ⟨k1, h⟩ := h
  refine ex_getR (pc := 34) d_Md_afterPreaccept_34 rfl rfl k1 ?_
  refine ex_iload_n (pc := 37) d_Md_afterPreaccept_37 rfl ?_
  obtain ⟨q2, e3, h⟩ := h
  obtain ⟨k4, h⟩ := h
  obtain ⟨b5, h⟩ := h
  refine ex_iald (pc := 38) d_Md_afterPreaccept_38 e3 k4 b5 ?_
  refine ex_iadd (pc := 39) d_Md_afterPreaccept_39 ?_
  refine ex_icmp_ge (tgt := 135) (pc := 40) d_Md_afterPreaccept_40 (by decide) (fun g => ?_) (fun g => ?_)
  · replace h := h.1 g
    refine ex_aload_n (pc := 135) d_Md_afterPreaccept_135 rfl ?_
    refine ex_getR (pc := 136) d_Md_afterPreaccept_136 rfl rfl k1 ?_
    refine ex_iload_n (pc := 139) d_Md_afterPreaccept_139 rfl ?_
    obtain ⟨q6, e7, h⟩ := h
    obtain ⟨k8, h⟩ := h
    obtain ⟨b9, h⟩ := h
    refine ex_iald (pc := 140) d_Md_afterPreaccept_140 e7 k8 b9 ?_
    refine ex_if_ne (tgt := 153) (pc := 141) d_Md_afterPreaccept_141 (by decide) (fun g => ?_) (fun g => ?_)
    · replace h := h.1 g
      refine ex_iconst (w := 0) (pc := 153) d_Md_afterPreaccept_153 (by decide) ?_
      refine ex_istore (ls2 := [_, _, _, _, _, _, _, _]) (pc := 154) d_Md_afterPreaccept_154 (Nat.le_of_ble_eq_true rfl) rfl ?_
      refine ex_iload (pc := 156) d_Md_afterPreaccept_156 rfl ?_
      refine ex_if_eq (tgt := 189) (pc := 158) d_Md_afterPreaccept_158 (by decide) (fun _ => ?_) (fun g => absurd g (by decide))
      refine ex_iload (pc := 189) d_Md_afterPreaccept_189 rfl ?_
      refine ex_if_ne (tgt := 229) (pc := 191) d_Md_afterPreaccept_191 (by decide) (fun g => absurd g (by decide)) (fun _ => ?_)
      refine ex_aload_n (pc := 194) d_Md_afterPreaccept_194 rfl ?_
      refine ex_getR (pc := 195) d_Md_afterPreaccept_195 rfl rfl k1 ?_
      refine ex_iload_n (pc := 198) d_Md_afterPreaccept_198 rfl ?_
      obtain ⟨b10, h⟩ := h
      refine ex_iald (pc := 199) d_Md_afterPreaccept_199 e3 k4 b10 ?_
      refine ex_aload_n (pc := 200) d_Md_afterPreaccept_200 rfl ?_
      refine ex_getI (pc := 201) d_Md_afterPreaccept_201 rfl rfl (by decide) k1 ?_
      refine ex_icmp_lt (tgt := 229) (pc := 204) d_Md_afterPreaccept_204 (by decide) (fun g => ?_) (fun g => ?_)
      · replace h := h.1 g
        exact ex_ret_v (pc := 229) d_Md_afterPreaccept_229 rfl h
      · replace h := h.2 g
        refine ex_aload_n (pc := 207) d_Md_afterPreaccept_207 rfl ?_
        refine ex_iload_n (pc := 208) d_Md_afterPreaccept_208 rfl ?_
        refine ex_iload_n (pc := 209) d_Md_afterPreaccept_209 rfl ?_
        refine ex_aload_n (pc := 210) d_Md_afterPreaccept_210 rfl ?_
        refine ex_getR (pc := 211) d_Md_afterPreaccept_211 rfl rfl k1 ?_
        refine ex_iload_n (pc := 214) d_Md_afterPreaccept_214 rfl ?_
        obtain ⟨q11, e12, h⟩ := h
        obtain ⟨k13, h⟩ := h
        obtain ⟨b14, h⟩ := h
        refine ex_iald (pc := 215) d_Md_afterPreaccept_215 e12 k13 b14 ?_
        refine ex_aload_n (pc := 216) d_Md_afterPreaccept_216 rfl ?_
        refine ex_getR (pc := 217) d_Md_afterPreaccept_217 rfl rfl k1 ?_
        refine ex_iload_n (pc := 220) d_Md_afterPreaccept_220 rfl ?_
        obtain ⟨q15, e16, h⟩ := h
        obtain ⟨k17, h⟩ := h
        obtain ⟨b18, h⟩ := h
        refine ex_iald (pc := 221) d_Md_afterPreaccept_221 e16 k17 b18 ?_
        refine ex_iload (pc := 222) d_Md_afterPreaccept_222 rfl ?_
        refine ex_iload (pc := 224) d_Md_afterPreaccept_224 rfl ?_
        refine ex_cVV (as := [_, _, _, _, _, _]) (st := []) (pc := 226) rfl rfl k1 rfl rfl rfl (Nat.le_of_ble_eq_true rfl) (EX.mono h fun r20 M19 h => ?_)
        obtain ⟨rfl, h⟩ := h
        refine ⟨rfl, ?_⟩
        exact ex_ret_v (pc := 229) d_Md_afterPreaccept_229 rfl h
    · replace h := h.2 g
      refine ex_iload (pc := 144) d_Md_afterPreaccept_144 rfl ?_
      refine ex_if_eq (tgt := 153) (pc := 146) d_Md_afterPreaccept_146 (by decide) (fun g => ?_) (fun g => ?_)
      · replace h := h.1 g
        refine ex_iconst (w := 0) (pc := 153) d_Md_afterPreaccept_153 (by decide) ?_
        refine ex_istore (ls2 := [_, _, _, _, _, _, _, _]) (pc := 154) d_Md_afterPreaccept_154 (Nat.le_of_ble_eq_true rfl) rfl ?_
        refine ex_iload (pc := 156) d_Md_afterPreaccept_156 rfl ?_
        refine ex_if_eq (tgt := 189) (pc := 158) d_Md_afterPreaccept_158 (by decide) (fun _ => ?_) (fun g => absurd g (by decide))
        refine ex_iload (pc := 189) d_Md_afterPreaccept_189 rfl ?_
        refine ex_if_ne (tgt := 229) (pc := 191) d_Md_afterPreaccept_191 (by decide) (fun g => absurd g (by decide)) (fun _ => ?_)
        refine ex_aload_n (pc := 194) d_Md_afterPreaccept_194 rfl ?_
        refine ex_getR (pc := 195) d_Md_afterPreaccept_195 rfl rfl k1 ?_
        refine ex_iload_n (pc := 198) d_Md_afterPreaccept_198 rfl ?_
        obtain ⟨b21, h⟩ := h
        refine ex_iald (pc := 199) d_Md_afterPreaccept_199 e3 k4 b21 ?_
        refine ex_aload_n (pc := 200) d_Md_afterPreaccept_200 rfl ?_
        refine ex_getI (pc := 201) d_Md_afterPreaccept_201 rfl rfl (by decide) k1 ?_
        refine ex_icmp_lt (tgt := 229) (pc := 204) d_Md_afterPreaccept_204 (by decide) (fun g => ?_) (fun g => ?_)
        · replace h := h.1 g
          exact ex_ret_v (pc := 229) d_Md_afterPreaccept_229 rfl h
        · replace h := h.2 g
          refine ex_aload_n (pc := 207) d_Md_afterPreaccept_207 rfl ?_
          refine ex_iload_n (pc := 208) d_Md_afterPreaccept_208 rfl ?_
          refine ex_iload_n (pc := 209) d_Md_afterPreaccept_209 rfl ?_
          refine ex_aload_n (pc := 210) d_Md_afterPreaccept_210 rfl ?_
          refine ex_getR (pc := 211) d_Md_afterPreaccept_211 rfl rfl k1 ?_
          refine ex_iload_n (pc := 214) d_Md_afterPreaccept_214 rfl ?_
          obtain ⟨q22, e23, h⟩ := h
          obtain ⟨k24, h⟩ := h
          obtain ⟨b25, h⟩ := h
          refine ex_iald (pc := 215) d_Md_afterPreaccept_215 e23 k24 b25 ?_
          refine ex_aload_n (pc := 216) d_Md_afterPreaccept_216 rfl ?_
          refine ex_getR (pc := 217) d_Md_afterPreaccept_217 rfl rfl k1 ?_
          refine ex_iload_n (pc := 220) d_Md_afterPreaccept_220 rfl ?_
          obtain ⟨q26, e27, h⟩ := h
          obtain ⟨k28, h⟩ := h
          obtain ⟨b29, h⟩ := h
          refine ex_iald (pc := 221) d_Md_afterPreaccept_221 e27 k28 b29 ?_
          refine ex_iload (pc := 222) d_Md_afterPreaccept_222 rfl ?_
          refine ex_iload (pc := 224) d_Md_afterPreaccept_224 rfl ?_
          refine ex_cVV (as := [_, _, _, _, _, _]) (st := []) (pc := 226) rfl rfl k1 rfl rfl rfl (Nat.le_of_ble_eq_true rfl) (EX.mono h fun r31 M30 h => ?_)
          obtain ⟨rfl, h⟩ := h
          refine ⟨rfl, ?_⟩
          exact ex_ret_v (pc := 229) d_Md_afterPreaccept_229 rfl h
      · replace h := h.2 g
        refine ex_iconst (w := 1) (pc := 149) d_Md_afterPreaccept_149 (by decide) ?_
        refine ex_goto (tgt := 154) (pc := 150) d_Md_afterPreaccept_150 (by decide) ?_
        refine ex_istore (ls2 := [_, _, _, _, _, _, _, _]) (pc := 154) d_Md_afterPreaccept_154 (Nat.le_of_ble_eq_true rfl) rfl ?_
        refine ex_iload (pc := 156) d_Md_afterPreaccept_156 rfl ?_
        refine ex_if_eq (tgt := 189) (pc := 158) d_Md_afterPreaccept_158 (by decide) (fun g => absurd g (by decide)) (fun _ => ?_)
        refine ex_aload_n (pc := 161) d_Md_afterPreaccept_161 rfl ?_
        refine ex_getR (pc := 162) d_Md_afterPreaccept_162 rfl rfl k1 ?_
        refine ex_iload_n (pc := 165) d_Md_afterPreaccept_165 rfl ?_
        obtain ⟨b32, h⟩ := h
        refine ex_iald (pc := 166) d_Md_afterPreaccept_166 e3 k4 b32 ?_
        refine ex_aload_n (pc := 167) d_Md_afterPreaccept_167 rfl ?_
        refine ex_getI (pc := 168) d_Md_afterPreaccept_168 rfl rfl (by decide) k1 ?_
        refine ex_iconst (w := 2) (pc := 171) d_Md_afterPreaccept_171 (by decide) ?_
        refine ex_isub (pc := 172) d_Md_afterPreaccept_172 ?_
        refine ex_icmp_ne (tgt := 189) (pc := 173) d_Md_afterPreaccept_173 (by decide) (fun g => ?_) (fun g => ?_)
        · replace h := h.1 g
          refine ex_iload (pc := 189) d_Md_afterPreaccept_189 rfl ?_
          refine ex_if_ne (tgt := 229) (pc := 191) d_Md_afterPreaccept_191 (by decide) (fun _ => ?_) (fun g => absurd g (by decide))
          exact ex_ret_v (pc := 229) d_Md_afterPreaccept_229 rfl h
        · replace h := h.2 g
          refine ex_aload_n (pc := 176) d_Md_afterPreaccept_176 rfl ?_
          refine ex_iload_n (pc := 177) d_Md_afterPreaccept_177 rfl ?_
          refine ex_iload_n (pc := 178) d_Md_afterPreaccept_178 rfl ?_
          refine ex_iload (pc := 179) d_Md_afterPreaccept_179 rfl ?_
          refine ex_iload (pc := 181) d_Md_afterPreaccept_181 rfl ?_
          refine ex_cVV (as := [_, _, _, _]) (st := []) (pc := 183) rfl rfl k1 rfl rfl rfl (Nat.le_of_ble_eq_true rfl) (EX.mono h fun r34 M33 h => ?_)
          obtain ⟨rfl, h⟩ := h
          refine ⟨rfl, ?_⟩
          refine ex_goto (tgt := 229) (pc := 186) d_Md_afterPreaccept_186 (by decide) ?_
          exact ex_ret_v (pc := 229) d_Md_afterPreaccept_229 rfl h
  · replace h := h.2 g
    refine ex_iload (pc := 43) d_Md_afterPreaccept_43 rfl ?_
    refine ex_if_eq (tgt := 88) (pc := 45) d_Md_afterPreaccept_45 (by decide) (fun g => ?_) (fun g => ?_)
    · replace h := h.1 g
      refine ex_iconst (w := 0) (pc := 88) d_Md_afterPreaccept_88 (by decide) ?_
      refine ex_istore (ls2 := [_, _, _, _, _, _, _, _]) (pc := 89) d_Md_afterPreaccept_89 (Nat.le_of_ble_eq_true rfl) rfl ?_
      refine ex_aload_n (pc := 91) d_Md_afterPreaccept_91 rfl ?_
      refine ex_getR (pc := 92) d_Md_afterPreaccept_92 rfl rfl k1 ?_
      refine ex_iload (pc := 95) d_Md_afterPreaccept_95 rfl ?_
      obtain ⟨q35, e36, h⟩ := h
      obtain ⟨k37, h⟩ := h
      obtain ⟨b38, h⟩ := h
      refine ex_iald (pc := 97) d_Md_afterPreaccept_97 e36 k37 b38 ?_
      refine ex_iload (pc := 98) d_Md_afterPreaccept_98 rfl ?_
      refine ex_icmp_le (tgt := 113) (pc := 100) d_Md_afterPreaccept_100 (by decide) (fun g => ?_) (fun g => ?_)
      · replace h := h.1 g
        refine ex_iload (pc := 113) d_Md_afterPreaccept_113 rfl ?_
        refine ex_istore (ls2 := [_, _, _, _, _, _, _, _]) (pc := 115) d_Md_afterPreaccept_115 (Nat.le_of_ble_eq_true rfl) rfl ?_
        refine ex_iload (pc := 117) d_Md_afterPreaccept_117 rfl ?_
        refine ex_aload_n (pc := 119) d_Md_afterPreaccept_119 rfl ?_
        refine ex_getR (pc := 120) d_Md_afterPreaccept_120 rfl rfl k1 ?_
        refine ex_iload (pc := 123) d_Md_afterPreaccept_123 rfl ?_
        obtain ⟨q39, e40, h⟩ := h
        obtain ⟨k41, h⟩ := h
        obtain ⟨b42, h⟩ := h
        refine ex_iald (pc := 125) d_Md_afterPreaccept_125 e40 k41 b42 ?_
        refine ex_ior (pc := 126) d_Md_afterPreaccept_126 ?_
        refine ex_istore (ls2 := [_, _, _, _, _, _, _, _]) (pc := 127) d_Md_afterPreaccept_127 (Nat.le_of_ble_eq_true rfl) rfl ?_
        replace h := h _ rfl
        refine ex_iinc (ls2 := [_, _, _, _, _, _, _, _]) (pc := 129) d_Md_afterPreaccept_129 rfl rfl ?_
        replace h := h _ rfl
        refine ex_goto (tgt := 28) (pc := 132) d_Md_afterPreaccept_132 (by decide) ?_
        exact h
      · replace h := h.2 g
        refine ex_aload_n (pc := 103) d_Md_afterPreaccept_103 rfl ?_
        refine ex_getR (pc := 104) d_Md_afterPreaccept_104 rfl rfl k1 ?_
        refine ex_iload (pc := 107) d_Md_afterPreaccept_107 rfl ?_
        obtain ⟨b45, h⟩ := h
        refine ex_iald (pc := 109) d_Md_afterPreaccept_109 e36 k37 b45 ?_
        refine ex_goto (tgt := 115) (pc := 110) d_Md_afterPreaccept_110 (by decide) ?_
        refine ex_istore (ls2 := [_, _, _, _, _, _, _, _]) (pc := 115) d_Md_afterPreaccept_115 (Nat.le_of_ble_eq_true rfl) rfl ?_
        replace h := h _ rfl
        refine ex_iload (pc := 117) d_Md_afterPreaccept_117 rfl ?_
        refine ex_aload_n (pc := 119) d_Md_afterPreaccept_119 rfl ?_
        refine ex_getR (pc := 120) d_Md_afterPreaccept_120 rfl rfl k1 ?_
        refine ex_iload (pc := 123) d_Md_afterPreaccept_123 rfl ?_
        obtain ⟨q47, e48, h⟩ := h
        obtain ⟨k49, h⟩ := h
        obtain ⟨b50, h⟩ := h
        refine ex_iald (pc := 125) d_Md_afterPreaccept_125 e48 k49 b50 ?_
        refine ex_ior (pc := 126) d_Md_afterPreaccept_126 ?_
        refine ex_istore (ls2 := [_, _, _, _, _, _, _, _]) (pc := 127) d_Md_afterPreaccept_127 (Nat.le_of_ble_eq_true rfl) rfl ?_
        replace h := h _ rfl
        refine ex_iinc (ls2 := [_, _, _, _, _, _, _, _]) (pc := 129) d_Md_afterPreaccept_129 rfl rfl ?_
        replace h := h _ rfl
        refine ex_goto (tgt := 28) (pc := 132) d_Md_afterPreaccept_132 (by decide) ?_
        exact h
    · replace h := h.2 g
      refine ex_aload_n (pc := 48) d_Md_afterPreaccept_48 rfl ?_
      refine ex_getR (pc := 49) d_Md_afterPreaccept_49 rfl rfl k1 ?_
      refine ex_iload (pc := 52) d_Md_afterPreaccept_52 rfl ?_
      obtain ⟨q53, e54, h⟩ := h
      obtain ⟨k55, h⟩ := h
      obtain ⟨b56, h⟩ := h
      refine ex_iald (pc := 54) d_Md_afterPreaccept_54 e54 k55 b56 ?_
      refine ex_aload_n (pc := 55) d_Md_afterPreaccept_55 rfl ?_
      refine ex_getR (pc := 56) d_Md_afterPreaccept_56 rfl rfl k1 ?_
      refine ex_iconst (w := 4) (pc := 59) d_Md_afterPreaccept_59 (by decide) ?_
      refine ex_iload_n (pc := 60) d_Md_afterPreaccept_60 rfl ?_
      refine ex_imul (pc := 61) d_Md_afterPreaccept_61 ?_
      obtain ⟨b57, h⟩ := h
      refine ex_iald (pc := 62) d_Md_afterPreaccept_62 e54 k55 b57 ?_
      refine ex_icmp_ne (tgt := 88) (pc := 63) d_Md_afterPreaccept_63 (by decide) (fun g => ?_) (fun g => ?_)
      · replace h := h.1 g
        refine ex_iconst (w := 0) (pc := 88) d_Md_afterPreaccept_88 (by decide) ?_
        refine ex_istore (ls2 := [_, _, _, _, _, _, _, _]) (pc := 89) d_Md_afterPreaccept_89 (Nat.le_of_ble_eq_true rfl) rfl ?_
        refine ex_aload_n (pc := 91) d_Md_afterPreaccept_91 rfl ?_
        refine ex_getR (pc := 92) d_Md_afterPreaccept_92 rfl rfl k1 ?_
        refine ex_iload (pc := 95) d_Md_afterPreaccept_95 rfl ?_
        obtain ⟨b58, h⟩ := h
        refine ex_iald (pc := 97) d_Md_afterPreaccept_97 e54 k55 b58 ?_
        refine ex_iload (pc := 98) d_Md_afterPreaccept_98 rfl ?_
        refine ex_icmp_le (tgt := 113) (pc := 100) d_Md_afterPreaccept_100 (by decide) (fun g => ?_) (fun g => ?_)
        · replace h := h.1 g
          refine ex_iload (pc := 113) d_Md_afterPreaccept_113 rfl ?_
          refine ex_istore (ls2 := [_, _, _, _, _, _, _, _]) (pc := 115) d_Md_afterPreaccept_115 (Nat.le_of_ble_eq_true rfl) rfl ?_
          refine ex_iload (pc := 117) d_Md_afterPreaccept_117 rfl ?_
          refine ex_aload_n (pc := 119) d_Md_afterPreaccept_119 rfl ?_
          refine ex_getR (pc := 120) d_Md_afterPreaccept_120 rfl rfl k1 ?_
          refine ex_iload (pc := 123) d_Md_afterPreaccept_123 rfl ?_
          obtain ⟨q59, e60, h⟩ := h
          obtain ⟨k61, h⟩ := h
          obtain ⟨b62, h⟩ := h
          refine ex_iald (pc := 125) d_Md_afterPreaccept_125 e60 k61 b62 ?_
          refine ex_ior (pc := 126) d_Md_afterPreaccept_126 ?_
          refine ex_istore (ls2 := [_, _, _, _, _, _, _, _]) (pc := 127) d_Md_afterPreaccept_127 (Nat.le_of_ble_eq_true rfl) rfl ?_
          replace h := h _ rfl
          refine ex_iinc (ls2 := [_, _, _, _, _, _, _, _]) (pc := 129) d_Md_afterPreaccept_129 rfl rfl ?_
          replace h := h _ rfl
          refine ex_goto (tgt := 28) (pc := 132) d_Md_afterPreaccept_132 (by decide) ?_
          exact h
        · replace h := h.2 g
          refine ex_aload_n (pc := 103) d_Md_afterPreaccept_103 rfl ?_
          refine ex_getR (pc := 104) d_Md_afterPreaccept_104 rfl rfl k1 ?_
          refine ex_iload (pc := 107) d_Md_afterPreaccept_107 rfl ?_
          obtain ⟨b65, h⟩ := h
          refine ex_iald (pc := 109) d_Md_afterPreaccept_109 e54 k55 b65 ?_
          refine ex_goto (tgt := 115) (pc := 110) d_Md_afterPreaccept_110 (by decide) ?_
          refine ex_istore (ls2 := [_, _, _, _, _, _, _, _]) (pc := 115) d_Md_afterPreaccept_115 (Nat.le_of_ble_eq_true rfl) rfl ?_
          replace h := h _ rfl
          refine ex_iload (pc := 117) d_Md_afterPreaccept_117 rfl ?_
          refine ex_aload_n (pc := 119) d_Md_afterPreaccept_119 rfl ?_
          refine ex_getR (pc := 120) d_Md_afterPreaccept_120 rfl rfl k1 ?_
          refine ex_iload (pc := 123) d_Md_afterPreaccept_123 rfl ?_
          obtain ⟨q67, e68, h⟩ := h
          obtain ⟨k69, h⟩ := h
          obtain ⟨b70, h⟩ := h
          refine ex_iald (pc := 125) d_Md_afterPreaccept_125 e68 k69 b70 ?_
          refine ex_ior (pc := 126) d_Md_afterPreaccept_126 ?_
          refine ex_istore (ls2 := [_, _, _, _, _, _, _, _]) (pc := 127) d_Md_afterPreaccept_127 (Nat.le_of_ble_eq_true rfl) rfl ?_
          replace h := h _ rfl
          refine ex_iinc (ls2 := [_, _, _, _, _, _, _, _]) (pc := 129) d_Md_afterPreaccept_129 rfl rfl ?_
          replace h := h _ rfl
          refine ex_goto (tgt := 28) (pc := 132) d_Md_afterPreaccept_132 (by decide) ?_
          exact h
      · replace h := h.2 g
        refine ex_aload_n (pc := 66) d_Md_afterPreaccept_66 rfl ?_
        refine ex_getR (pc := 67) d_Md_afterPreaccept_67 rfl rfl k1 ?_
        refine ex_iload (pc := 70) d_Md_afterPreaccept_70 rfl ?_
        obtain ⟨q73, e74, h⟩ := h
        obtain ⟨k75, h⟩ := h
        obtain ⟨b76, h⟩ := h
        refine ex_iald (pc := 72) d_Md_afterPreaccept_72 e74 k75 b76 ?_
        refine ex_aload_n (pc := 73) d_Md_afterPreaccept_73 rfl ?_
        refine ex_getR (pc := 74) d_Md_afterPreaccept_74 rfl rfl k1 ?_
        refine ex_iconst (w := 4) (pc := 77) d_Md_afterPreaccept_77 (by decide) ?_
        refine ex_iload_n (pc := 78) d_Md_afterPreaccept_78 rfl ?_
        refine ex_imul (pc := 79) d_Md_afterPreaccept_79 ?_
        obtain ⟨b77, h⟩ := h
        refine ex_iald (pc := 80) d_Md_afterPreaccept_80 e74 k75 b77 ?_
        refine ex_icmp_ne (tgt := 88) (pc := 81) d_Md_afterPreaccept_81 (by decide) (fun g => ?_) (fun g => ?_)
        · replace h := h.1 g
          refine ex_iconst (w := 0) (pc := 88) d_Md_afterPreaccept_88 (by decide) ?_
          refine ex_istore (ls2 := [_, _, _, _, _, _, _, _]) (pc := 89) d_Md_afterPreaccept_89 (Nat.le_of_ble_eq_true rfl) rfl ?_
          refine ex_aload_n (pc := 91) d_Md_afterPreaccept_91 rfl ?_
          refine ex_getR (pc := 92) d_Md_afterPreaccept_92 rfl rfl k1 ?_
          refine ex_iload (pc := 95) d_Md_afterPreaccept_95 rfl ?_
          obtain ⟨b78, h⟩ := h
          refine ex_iald (pc := 97) d_Md_afterPreaccept_97 e54 k55 b78 ?_
          refine ex_iload (pc := 98) d_Md_afterPreaccept_98 rfl ?_
          refine ex_icmp_le (tgt := 113) (pc := 100) d_Md_afterPreaccept_100 (by decide) (fun g => ?_) (fun g => ?_)
          · replace h := h.1 g
            refine ex_iload (pc := 113) d_Md_afterPreaccept_113 rfl ?_
            refine ex_istore (ls2 := [_, _, _, _, _, _, _, _]) (pc := 115) d_Md_afterPreaccept_115 (Nat.le_of_ble_eq_true rfl) rfl ?_
            refine ex_iload (pc := 117) d_Md_afterPreaccept_117 rfl ?_
            refine ex_aload_n (pc := 119) d_Md_afterPreaccept_119 rfl ?_
            refine ex_getR (pc := 120) d_Md_afterPreaccept_120 rfl rfl k1 ?_
            refine ex_iload (pc := 123) d_Md_afterPreaccept_123 rfl ?_
            obtain ⟨b79, h⟩ := h
            refine ex_iald (pc := 125) d_Md_afterPreaccept_125 e74 k75 b79 ?_
            refine ex_ior (pc := 126) d_Md_afterPreaccept_126 ?_
            refine ex_istore (ls2 := [_, _, _, _, _, _, _, _]) (pc := 127) d_Md_afterPreaccept_127 (Nat.le_of_ble_eq_true rfl) rfl ?_
            replace h := h _ rfl
            refine ex_iinc (ls2 := [_, _, _, _, _, _, _, _]) (pc := 129) d_Md_afterPreaccept_129 rfl rfl ?_
            replace h := h _ rfl
            refine ex_goto (tgt := 28) (pc := 132) d_Md_afterPreaccept_132 (by decide) ?_
            exact h
          · replace h := h.2 g
            refine ex_aload_n (pc := 103) d_Md_afterPreaccept_103 rfl ?_
            refine ex_getR (pc := 104) d_Md_afterPreaccept_104 rfl rfl k1 ?_
            refine ex_iload (pc := 107) d_Md_afterPreaccept_107 rfl ?_
            obtain ⟨b82, h⟩ := h
            refine ex_iald (pc := 109) d_Md_afterPreaccept_109 e54 k55 b82 ?_
            refine ex_goto (tgt := 115) (pc := 110) d_Md_afterPreaccept_110 (by decide) ?_
            refine ex_istore (ls2 := [_, _, _, _, _, _, _, _]) (pc := 115) d_Md_afterPreaccept_115 (Nat.le_of_ble_eq_true rfl) rfl ?_
            replace h := h _ rfl
            refine ex_iload (pc := 117) d_Md_afterPreaccept_117 rfl ?_
            refine ex_aload_n (pc := 119) d_Md_afterPreaccept_119 rfl ?_
            refine ex_getR (pc := 120) d_Md_afterPreaccept_120 rfl rfl k1 ?_
            refine ex_iload (pc := 123) d_Md_afterPreaccept_123 rfl ?_
            obtain ⟨b84, h⟩ := h
            refine ex_iald (pc := 125) d_Md_afterPreaccept_125 e74 k75 b84 ?_
            refine ex_ior (pc := 126) d_Md_afterPreaccept_126 ?_
            refine ex_istore (ls2 := [_, _, _, _, _, _, _, _]) (pc := 127) d_Md_afterPreaccept_127 (Nat.le_of_ble_eq_true rfl) rfl ?_
            replace h := h _ rfl
            refine ex_iinc (ls2 := [_, _, _, _, _, _, _, _]) (pc := 129) d_Md_afterPreaccept_129 rfl rfl ?_
            replace h := h _ rfl
            refine ex_goto (tgt := 28) (pc := 132) d_Md_afterPreaccept_132 (by decide) ?_
            exact h
        · replace h := h.2 g
          refine ex_iconst (w := 1) (pc := 84) d_Md_afterPreaccept_84 (by decide) ?_
          refine ex_goto (tgt := 89) (pc := 85) d_Md_afterPreaccept_85 (by decide) ?_
          refine ex_istore (ls2 := [_, _, _, _, _, _, _, _]) (pc := 89) d_Md_afterPreaccept_89 (Nat.le_of_ble_eq_true rfl) rfl ?_
          refine ex_aload_n (pc := 91) d_Md_afterPreaccept_91 rfl ?_
          refine ex_getR (pc := 92) d_Md_afterPreaccept_92 rfl rfl k1 ?_
          refine ex_iload (pc := 95) d_Md_afterPreaccept_95 rfl ?_
          obtain ⟨b87, h⟩ := h
          refine ex_iald (pc := 97) d_Md_afterPreaccept_97 e54 k55 b87 ?_
          refine ex_iload (pc := 98) d_Md_afterPreaccept_98 rfl ?_
          refine ex_icmp_le (tgt := 113) (pc := 100) d_Md_afterPreaccept_100 (by decide) (fun g => ?_) (fun g => ?_)
          · replace h := h.1 g
            refine ex_iload (pc := 113) d_Md_afterPreaccept_113 rfl ?_
            refine ex_istore (ls2 := [_, _, _, _, _, _, _, _]) (pc := 115) d_Md_afterPreaccept_115 (Nat.le_of_ble_eq_true rfl) rfl ?_
            refine ex_iload (pc := 117) d_Md_afterPreaccept_117 rfl ?_
            refine ex_aload_n (pc := 119) d_Md_afterPreaccept_119 rfl ?_
            refine ex_getR (pc := 120) d_Md_afterPreaccept_120 rfl rfl k1 ?_
            refine ex_iload (pc := 123) d_Md_afterPreaccept_123 rfl ?_
            obtain ⟨b88, h⟩ := h
            refine ex_iald (pc := 125) d_Md_afterPreaccept_125 e74 k75 b88 ?_
            refine ex_ior (pc := 126) d_Md_afterPreaccept_126 ?_
            refine ex_istore (ls2 := [_, _, _, _, _, _, _, _]) (pc := 127) d_Md_afterPreaccept_127 (Nat.le_of_ble_eq_true rfl) rfl ?_
            replace h := h _ rfl
            refine ex_iinc (ls2 := [_, _, _, _, _, _, _, _]) (pc := 129) d_Md_afterPreaccept_129 rfl rfl ?_
            replace h := h _ rfl
            refine ex_goto (tgt := 28) (pc := 132) d_Md_afterPreaccept_132 (by decide) ?_
            exact h
          · replace h := h.2 g
            refine ex_aload_n (pc := 103) d_Md_afterPreaccept_103 rfl ?_
            refine ex_getR (pc := 104) d_Md_afterPreaccept_104 rfl rfl k1 ?_
            refine ex_iload (pc := 107) d_Md_afterPreaccept_107 rfl ?_
            obtain ⟨b91, h⟩ := h
            refine ex_iald (pc := 109) d_Md_afterPreaccept_109 e54 k55 b91 ?_
            refine ex_goto (tgt := 115) (pc := 110) d_Md_afterPreaccept_110 (by decide) ?_
            refine ex_istore (ls2 := [_, _, _, _, _, _, _, _]) (pc := 115) d_Md_afterPreaccept_115 (Nat.le_of_ble_eq_true rfl) rfl ?_
            replace h := h _ rfl
            refine ex_iload (pc := 117) d_Md_afterPreaccept_117 rfl ?_
            refine ex_aload_n (pc := 119) d_Md_afterPreaccept_119 rfl ?_
            refine ex_getR (pc := 120) d_Md_afterPreaccept_120 rfl rfl k1 ?_
            refine ex_iload (pc := 123) d_Md_afterPreaccept_123 rfl ?_
            obtain ⟨b93, h⟩ := h
            refine ex_iald (pc := 125) d_Md_afterPreaccept_125 e74 k75 b93 ?_
            refine ex_ior (pc := 126) d_Md_afterPreaccept_126 ?_
            refine ex_istore (ls2 := [_, _, _, _, _, _, _, _]) (pc := 127) d_Md_afterPreaccept_127 (Nat.le_of_ble_eq_true rfl) rfl ?_
            replace h := h _ rfl
            refine ex_iinc (ls2 := [_, _, _, _, _, _, _, _]) (pc := 129) d_Md_afterPreaccept_129 rfl rfl ?_
            replace h := h _ rfl
            refine ex_goto (tgt := 28) (pc := 132) d_Md_afterPreaccept_132 (by decide) ?_
            exact h
theorem sg_Md_accepted_0 {h0 : Nat} {v1 : Int32} {v2 : Int32} {M : me_M} {Q : Option me_V → me_M → Prop} (h : EX eL X_Md_accepted 5 [some (.inr (some h0)), some (.inl v1), some (.inl v2), some (.inl (-1 : Int32)), some (.inl v1)] [] M Q) : EX eL X_Md_accepted 0 [some (.inr (some h0)), some (.inl v1), some (.inl v2), none, none] [] M Q := by
  refine ex_iconst (w := (-1 : Int32)) (pc := 0) d_Md_accepted_0 (by decide) ?_
  refine ex_istore_n (ls2 := [_, _, _, _, _]) (pc := 1) d_Md_accepted_1 (Nat.le_of_ble_eq_true rfl) rfl ?_
  refine ex_iload_n (pc := 2) d_Md_accepted_2 rfl ?_
  refine ex_istore (ls2 := [_, _, _, _, _]) (pc := 3) d_Md_accepted_3 (Nat.le_of_ble_eq_true rfl) rfl ?_
  exact h
theorem sg_Md_accepted_5 {h0 : Nat} {v1 : Int32} {v2 : Int32} {v3 : Int32} {v4 : Int32} {M : me_M} {Q : Option me_V → me_M → Prop} (h : (((v1 + v2) ≤ v4) → Q (some (.inl v3)) M) ∧ ((¬ (v1 + v2) ≤ v4) → mKd M h0 = 11 ∧ ∃ q2, (mR M 1660 h0 0) = some q2 ∧ mKd M q2 = 100 ∧ vp_in v4 (mLn M q2) ∧ ((¬ (mI M 100 q2 v4.toNatClampNeg) = 2) → ∀ x6, x6 = v4 + Int32.ofInt 1 → EX eL X_Md_accepted 5 [some (.inr (some h0)), some (.inl v1), some (.inl v2), some (.inl v3), some (.inl x6)] [] M Q) ∧ (((mI M 100 q2 v4.toNatClampNeg) = 2) → ((v3 < 0) → ∀ x7, x7 = v4 + Int32.ofInt 1 → EX eL X_Md_accepted 5 [some (.inr (some h0)), some (.inl v1), some (.inl v2), some (.inl v4), some (.inl x7)] [] M Q) ∧ ((¬ v3 < 0) → ∃ q8, (mR M 1665 h0 0) = some q8 ∧ mKd M q8 = 100 ∧ vp_in v4 (mLn M q8) ∧ vp_in v3 (mLn M q8) ∧ (((mI M 100 q8 v4.toNatClampNeg) ≤ (mI M 100 q8 v3.toNatClampNeg)) → ∀ x13, x13 = v4 + Int32.ofInt 1 → EX eL X_Md_accepted 5 [some (.inr (some h0)), some (.inl v1), some (.inl v2), some (.inl v3), some (.inl x13)] [] M Q) ∧ ((¬ (mI M 100 q8 v4.toNatClampNeg) ≤ (mI M 100 q8 v3.toNatClampNeg)) → ∀ x14, x14 = v4 + Int32.ofInt 1 → EX eL X_Md_accepted 5 [some (.inr (some h0)), some (.inl v1), some (.inl v2), some (.inl v4), some (.inl x14)] [] M Q))))) : EX eL X_Md_accepted 5 [some (.inr (some h0)), some (.inl v1), some (.inl v2), some (.inl v3), some (.inl v4)] [] M Q := by
  refine ex_iload (pc := 5) d_Md_accepted_5 rfl ?_
  refine ex_iload_n (pc := 7) d_Md_accepted_7 rfl ?_
  refine ex_iload_n (pc := 8) d_Md_accepted_8 rfl ?_
  refine ex_iadd (pc := 9) d_Md_accepted_9 ?_
  refine ex_icmp_ge (tgt := 53) (pc := 10) d_Md_accepted_10 (by decide) (fun g => ?_) (fun g => ?_)
  · replace h := h.1 g
    refine ex_iload_n (pc := 53) d_Md_accepted_53 rfl ?_
    exact ex_ret_i (pc := 54) d_Md_accepted_54 rfl h
  · replace h := h.2 g
    refine ex_aload_n (pc := 13) d_Md_accepted_13 rfl ?_
    obtain ⟨k1, h⟩ := h
    refine ex_getR (pc := 14) d_Md_accepted_14 rfl rfl k1 ?_
    refine ex_iload (pc := 17) d_Md_accepted_17 rfl ?_
    obtain ⟨q2, e3, h⟩ := h
    obtain ⟨k4, h⟩ := h
    obtain ⟨b5, h⟩ := h
    refine ex_iald (pc := 19) d_Md_accepted_19 e3 k4 b5 ?_
    refine ex_iconst (w := 2) (pc := 20) d_Md_accepted_20 (by decide) ?_
    refine ex_icmp_ne (tgt := 47) (pc := 21) d_Md_accepted_21 (by decide) (fun g => ?_) (fun g => ?_)
    · replace h := h.1 g
      refine ex_iinc (ls2 := [_, _, _, _, _]) (pc := 47) d_Md_accepted_47 rfl rfl ?_
      replace h := h _ rfl
      refine ex_goto (tgt := 5) (pc := 50) d_Md_accepted_50 (by decide) ?_
      exact h
    · replace h := h.2 g
      refine ex_iload_n (pc := 24) d_Md_accepted_24 rfl ?_
      refine ex_if_lt (tgt := 44) (pc := 25) d_Md_accepted_25 (by decide) (fun g => ?_) (fun g => ?_)
      · replace h := h.1 g
        refine ex_iload (pc := 44) d_Md_accepted_44 rfl ?_
        refine ex_istore_n (ls2 := [_, _, _, _, _]) (pc := 46) d_Md_accepted_46 (Nat.le_of_ble_eq_true rfl) rfl ?_
        refine ex_iinc (ls2 := [_, _, _, _, _]) (pc := 47) d_Md_accepted_47 rfl rfl ?_
        replace h := h _ rfl
        refine ex_goto (tgt := 5) (pc := 50) d_Md_accepted_50 (by decide) ?_
        exact h
      · replace h := h.2 g
        refine ex_aload_n (pc := 28) d_Md_accepted_28 rfl ?_
        refine ex_getR (pc := 29) d_Md_accepted_29 rfl rfl k1 ?_
        refine ex_iload (pc := 32) d_Md_accepted_32 rfl ?_
        obtain ⟨q8, e9, h⟩ := h
        obtain ⟨k10, h⟩ := h
        obtain ⟨b11, h⟩ := h
        refine ex_iald (pc := 34) d_Md_accepted_34 e9 k10 b11 ?_
        refine ex_aload_n (pc := 35) d_Md_accepted_35 rfl ?_
        refine ex_getR (pc := 36) d_Md_accepted_36 rfl rfl k1 ?_
        refine ex_iload_n (pc := 39) d_Md_accepted_39 rfl ?_
        obtain ⟨b12, h⟩ := h
        refine ex_iald (pc := 40) d_Md_accepted_40 e9 k10 b12 ?_
        refine ex_icmp_le (tgt := 47) (pc := 41) d_Md_accepted_41 (by decide) (fun g => ?_) (fun g => ?_)
        · replace h := h.1 g
          refine ex_iinc (ls2 := [_, _, _, _, _]) (pc := 47) d_Md_accepted_47 rfl rfl ?_
          replace h := h _ rfl
          refine ex_goto (tgt := 5) (pc := 50) d_Md_accepted_50 (by decide) ?_
          exact h
        · replace h := h.2 g
          refine ex_iload (pc := 44) d_Md_accepted_44 rfl ?_
          refine ex_istore_n (ls2 := [_, _, _, _, _]) (pc := 46) d_Md_accepted_46 (Nat.le_of_ble_eq_true rfl) rfl ?_
          refine ex_iinc (ls2 := [_, _, _, _, _]) (pc := 47) d_Md_accepted_47 rfl rfl ?_
          replace h := h _ rfl
          refine ex_goto (tgt := 5) (pc := 50) d_Md_accepted_50 (by decide) ?_
          exact h
theorem sg_Md_plain_0 {h0 : Nat} {v1 : Int32} {v2 : Int32} {M : me_M} {Q : Option me_V → me_M → Prop} (h : mKd M h0 = 11 ∧ ∃ q2, (mR M 1660 h0 0) = some q2 ∧ mKd M q2 = 100 ∧ vp_in v1 (mLn M q2) ∧ ((¬ (mI M 100 q2 v1.toNatClampNeg) = 1) → Q (some (.inl 0)) M) ∧ (((mI M 100 q2 v1.toNatClampNeg) = 1) → ∃ q6, (mR M 1665 h0 0) = some q6 ∧ mKd M q6 = 100 ∧ vp_in v1 (mLn M q6) ∧ ((¬ (mI M 100 q6 v1.toNatClampNeg) = 0) → Q (some (.inl 0)) M) ∧ (((mI M 100 q6 v1.toNatClampNeg) = 0) → ∃ q10, (mR M 1659 h0 0) = some q10 ∧ mKd M q10 = 100 ∧ vp_in v1 (mLn M q10) ∧ (((mI M 100 q10 v1.toNatClampNeg) = (v2 / 6)) → Q (some (.inl 0)) M) ∧ ((¬ (mI M 100 q10 v1.toNatClampNeg) = (v2 / 6)) → Q (some (.inl 1)) M)))) : EX eL X_Md_plain 0 [some (.inr (some h0)), some (.inl v1), some (.inl v2)] [] M Q := by
  refine ex_aload_n (pc := 0) d_Md_plain_0 rfl ?_
  obtain ⟨k1, h⟩ := h
  refine ex_getR (pc := 1) d_Md_plain_1 rfl rfl k1 ?_
  refine ex_iload_n (pc := 4) d_Md_plain_4 rfl ?_
  obtain ⟨q2, e3, h⟩ := h
  obtain ⟨k4, h⟩ := h
  obtain ⟨b5, h⟩ := h
  refine ex_iald (pc := 5) d_Md_plain_5 e3 k4 b5 ?_
  refine ex_iconst (w := 1) (pc := 6) d_Md_plain_6 (by decide) ?_
  refine ex_icmp_ne (tgt := 36) (pc := 7) d_Md_plain_7 (by decide) (fun g => ?_) (fun g => ?_)
  · replace h := h.1 g
    refine ex_iconst (w := 0) (pc := 36) d_Md_plain_36 (by decide) ?_
    exact ex_ret_z (pc := 37) d_Md_plain_37 rfl (Or.inl rfl) h
  · replace h := h.2 g
    refine ex_aload_n (pc := 10) d_Md_plain_10 rfl ?_
    refine ex_getR (pc := 11) d_Md_plain_11 rfl rfl k1 ?_
    refine ex_iload_n (pc := 14) d_Md_plain_14 rfl ?_
    obtain ⟨q6, e7, h⟩ := h
    obtain ⟨k8, h⟩ := h
    obtain ⟨b9, h⟩ := h
    refine ex_iald (pc := 15) d_Md_plain_15 e7 k8 b9 ?_
    refine ex_if_ne (tgt := 36) (pc := 16) d_Md_plain_16 (by decide) (fun g => ?_) (fun g => ?_)
    · replace h := h.1 g
      refine ex_iconst (w := 0) (pc := 36) d_Md_plain_36 (by decide) ?_
      exact ex_ret_z (pc := 37) d_Md_plain_37 rfl (Or.inl rfl) h
    · replace h := h.2 g
      refine ex_aload_n (pc := 19) d_Md_plain_19 rfl ?_
      refine ex_getR (pc := 20) d_Md_plain_20 rfl rfl k1 ?_
      refine ex_iload_n (pc := 23) d_Md_plain_23 rfl ?_
      obtain ⟨q10, e11, h⟩ := h
      obtain ⟨k12, h⟩ := h
      obtain ⟨b13, h⟩ := h
      refine ex_iald (pc := 24) d_Md_plain_24 e11 k12 b13 ?_
      refine ex_iload_n (pc := 25) d_Md_plain_25 rfl ?_
      refine ex_bipush (w := 6) (pc := 26) d_Md_plain_26 (by decide) ?_
      refine ex_idiv (pc := 28) d_Md_plain_28 (by decide) ?_
      refine ex_icmp_eq (tgt := 36) (pc := 29) d_Md_plain_29 (by decide) (fun g => ?_) (fun g => ?_)
      · replace h := h.1 g
        refine ex_iconst (w := 0) (pc := 36) d_Md_plain_36 (by decide) ?_
        exact ex_ret_z (pc := 37) d_Md_plain_37 rfl (Or.inl rfl) h
      · replace h := h.2 g
        refine ex_iconst (w := 1) (pc := 32) d_Md_plain_32 (by decide) ?_
        refine ex_goto (tgt := 37) (pc := 33) d_Md_plain_33 (by decide) ?_
        exact ex_ret_z (pc := 37) d_Md_plain_37 rfl (Or.inr rfl) h
theorem sg_Md_common_0 {h0 : Nat} {v1 : Int32} {v2 : Int32} {v3 : Int32} {M : me_M} {Q : Option me_V → me_M → Prop} (h : EX eL X_Md_common 3 [some (.inr (some h0)), some (.inl v1), some (.inl v2), some (.inl v3), some (.inl v1), none, none] [] M Q) : EX eL X_Md_common 0 [some (.inr (some h0)), some (.inl v1), some (.inl v2), some (.inl v3), none, none, none] [] M Q := by
  refine ex_iload_n (pc := 0) d_Md_common_0 rfl ?_
  refine ex_istore (ls2 := [_, _, _, _, _, _, _]) (pc := 1) d_Md_common_1 (Nat.le_of_ble_eq_true rfl) rfl ?_
  exact h
theorem sg_Md_common_3 {h0 : Nat} {v1 : Int32} {v2 : Int32} {v3 : Int32} {v4 : Int32} {M : me_M} {Q : Option me_V → me_M → Prop} (h : (((v1 + v2) ≤ v4) → Q (some (.inl (-1 : Int32))) M) ∧ ((¬ (v1 + v2) ≤ v4) → EX eL X_Md_common 17 [some (.inr (some h0)), some (.inl v1), some (.inl v2), some (.inl v3), some (.inl v4), some (.inl 0), some (.inl v1)] [] M Q)) : EX eL X_Md_common 3 [some (.inr (some h0)), some (.inl v1), some (.inl v2), some (.inl v3), some (.inl v4), none, none] [] M Q := by
  refine ex_iload (pc := 3) d_Md_common_3 rfl ?_
  refine ex_iload_n (pc := 5) d_Md_common_5 rfl ?_
  refine ex_iload_n (pc := 6) d_Md_common_6 rfl ?_
  refine ex_iadd (pc := 7) d_Md_common_7 ?_
  refine ex_icmp_ge (tgt := 106) (pc := 8) d_Md_common_8 (by decide) (fun g => ?_) (fun g => ?_)
  · replace h := h.1 g
    refine ex_iconst (w := (-1 : Int32)) (pc := 106) d_Md_common_106 (by decide) ?_
    exact ex_ret_i (pc := 107) d_Md_common_107 rfl h
  · replace h := h.2 g
    refine ex_iconst (w := 0) (pc := 11) d_Md_common_11 (by decide) ?_
    refine ex_istore (ls2 := [_, _, _, _, _, _, _]) (pc := 12) d_Md_common_12 (Nat.le_of_ble_eq_true rfl) rfl ?_
    refine ex_iload_n (pc := 14) d_Md_common_14 rfl ?_
    refine ex_istore (ls2 := [_, _, _, _, _, _, _]) (pc := 15) d_Md_common_15 (Nat.le_of_ble_eq_true rfl) rfl ?_
    exact h
theorem sg_Md_common_17 {h0 : Nat} {v1 : Int32} {v2 : Int32} {v3 : Int32} {v4 : Int32} {v5 : Int32} {v6 : Int32} {M : me_M} {Q : Option me_V → me_M → Prop} (h : (((v1 + v2) ≤ v6) → mKd M h0 = 11 ∧ ((v5 < (mI M 1641 h0 0)) → ∀ x2, x2 = v4 + Int32.ofInt 1 → EX eL X_Md_common 3 [some (.inr (some h0)), some (.inl v1), some (.inl v2), some (.inl v3), some (.inl x2), none, none] [] M Q) ∧ ((¬ v5 < (mI M 1641 h0 0)) → Q (some (.inl v4)) M)) ∧ ((¬ (v1 + v2) ≤ v6) → mKd M h0 = 11 ∧ EX eL X_Md_plain 0 [some (.inr (some h0)), some (.inl v4), some (.inl v3)] [] M (fun r5 M4 => ∃ x6, r5 = some (.inl x6) ∧ ((x6 = 0) → ∀ x7, x7 = v6 + Int32.ofInt 1 → EX eL X_Md_common 17 [some (.inr (some h0)), some (.inl v1), some (.inl v2), some (.inl v3), some (.inl v4), some (.inl v5), some (.inl x7)] [] M4 Q) ∧ ((¬ x6 = 0) → mKd M4 h0 = 11 ∧ EX eL X_Md_plain 0 [some (.inr (some h0)), some (.inl v6), some (.inl v3)] [] M4 (fun r10 M9 => ∃ x11, r10 = some (.inl x11) ∧ ((x11 = 0) → ∀ x12, x12 = v6 + Int32.ofInt 1 → EX eL X_Md_common 17 [some (.inr (some h0)), some (.inl v1), some (.inl v2), some (.inl v3), some (.inl v4), some (.inl v5), some (.inl x12)] [] M9 Q) ∧ ((¬ x11 = 0) → mKd M9 h0 = 11 ∧ ∃ q14, (mR M9 1663 h0 0) = some q14 ∧ mKd M9 q14 = 100 ∧ vp_in v6 (mLn M9 q14) ∧ vp_in v4 (mLn M9 q14) ∧ ((¬ (mI M9 100 q14 v6.toNatClampNeg) = (mI M9 100 q14 v4.toNatClampNeg)) → ∀ x19, x19 = v6 + Int32.ofInt 1 → EX eL X_Md_common 17 [some (.inr (some h0)), some (.inl v1), some (.inl v2), some (.inl v3), some (.inl v4), some (.inl v5), some (.inl x19)] [] M9 Q) ∧ (((mI M9 100 q14 v6.toNatClampNeg) = (mI M9 100 q14 v4.toNatClampNeg)) → ∃ q20, (mR M9 1664 h0 0) = some q20 ∧ mKd M9 q20 = 100 ∧ vp_in v6 (mLn M9 q20) ∧ vp_in v4 (mLn M9 q20) ∧ ((¬ (mI M9 100 q20 v6.toNatClampNeg) = (mI M9 100 q20 v4.toNatClampNeg)) → ∀ x25, x25 = v6 + Int32.ofInt 1 → EX eL X_Md_common 17 [some (.inr (some h0)), some (.inl v1), some (.inl v2), some (.inl v3), some (.inl v4), some (.inl v5), some (.inl x25)] [] M9 Q) ∧ (((mI M9 100 q20 v6.toNatClampNeg) = (mI M9 100 q20 v4.toNatClampNeg)) → ∀ x26, x26 = v5 + Int32.ofInt 1 → ∀ x27, x27 = v6 + Int32.ofInt 1 → EX eL X_Md_common 17 [some (.inr (some h0)), some (.inl v1), some (.inl v2), some (.inl v3), some (.inl v4), some (.inl x26), some (.inl x27)] [] M9 Q)))))))) : EX eL X_Md_common 17 [some (.inr (some h0)), some (.inl v1), some (.inl v2), some (.inl v3), some (.inl v4), some (.inl v5), some (.inl v6)] [] M Q := by
  refine ex_iload (pc := 17) d_Md_common_17 rfl ?_
  refine ex_iload_n (pc := 19) d_Md_common_19 rfl ?_
  refine ex_iload_n (pc := 20) d_Md_common_20 rfl ?_
  refine ex_iadd (pc := 21) d_Md_common_21 ?_
  refine ex_icmp_ge (tgt := 88) (pc := 22) d_Md_common_22 (by decide) (fun g => ?_) (fun g => ?_)
  · replace h := h.1 g
    refine ex_iload (pc := 88) d_Md_common_88 rfl ?_
    refine ex_aload_n (pc := 90) d_Md_common_90 rfl ?_
    obtain ⟨k1, h⟩ := h
    refine ex_getI (pc := 91) d_Md_common_91 rfl rfl (by decide) k1 ?_
    refine ex_icmp_lt (tgt := 100) (pc := 94) d_Md_common_94 (by decide) (fun g => ?_) (fun g => ?_)
    · replace h := h.1 g
      refine ex_iinc (ls2 := [_, _, _, _, _, _, _]) (pc := 100) d_Md_common_100 rfl rfl ?_
      replace h := h _ rfl
      refine ex_goto (tgt := 3) (pc := 103) d_Md_common_103 (by decide) ?_
      refine ex_drop (k := 5) (ls2 := [_, _, _, _, _, _, _]) rfl ?_
      refine ex_drop (k := 6) (ls2 := [_, _, _, _, _, _, _]) rfl ?_
      exact h
    · replace h := h.2 g
      refine ex_iload (pc := 97) d_Md_common_97 rfl ?_
      exact ex_ret_i (pc := 99) d_Md_common_99 rfl h
  · replace h := h.2 g
    refine ex_aload_n (pc := 25) d_Md_common_25 rfl ?_
    refine ex_iload (pc := 26) d_Md_common_26 rfl ?_
    refine ex_iload_n (pc := 28) d_Md_common_28 rfl ?_
    obtain ⟨k3, h⟩ := h
    refine ex_cVI (as := [_, _]) (st := []) (pc := 29) rfl rfl k3 rfl rfl rfl (Nat.le_of_ble_eq_true rfl) (EX.mono h fun r5 M4 h => ?_)
    obtain ⟨x6, rfl, h⟩ := h
    refine ⟨_, rfl, ?_⟩
    refine ex_if_eq (tgt := 82) (pc := 32) d_Md_common_32 (by decide) (fun g => ?_) (fun g => ?_)
    · replace h := h.1 g
      refine ex_iinc (ls2 := [_, _, _, _, _, _, _]) (pc := 82) d_Md_common_82 rfl rfl ?_
      replace h := h _ rfl
      refine ex_goto (tgt := 17) (pc := 85) d_Md_common_85 (by decide) ?_
      exact h
    · replace h := h.2 g
      refine ex_aload_n (pc := 35) d_Md_common_35 rfl ?_
      refine ex_iload (pc := 36) d_Md_common_36 rfl ?_
      refine ex_iload_n (pc := 38) d_Md_common_38 rfl ?_
      obtain ⟨k8, h⟩ := h
      refine ex_cVI (as := [_, _]) (st := []) (pc := 39) rfl rfl k8 rfl rfl rfl (Nat.le_of_ble_eq_true rfl) (EX.mono h fun r10 M9 h => ?_)
      obtain ⟨x11, rfl, h⟩ := h
      refine ⟨_, rfl, ?_⟩
      refine ex_if_eq (tgt := 82) (pc := 42) d_Md_common_42 (by decide) (fun g => ?_) (fun g => ?_)
      · replace h := h.1 g
        refine ex_iinc (ls2 := [_, _, _, _, _, _, _]) (pc := 82) d_Md_common_82 rfl rfl ?_
        replace h := h _ rfl
        refine ex_goto (tgt := 17) (pc := 85) d_Md_common_85 (by decide) ?_
        exact h
      · replace h := h.2 g
        refine ex_aload_n (pc := 45) d_Md_common_45 rfl ?_
        obtain ⟨k13, h⟩ := h
        refine ex_getR (pc := 46) d_Md_common_46 rfl rfl k13 ?_
        refine ex_iload (pc := 49) d_Md_common_49 rfl ?_
        obtain ⟨q14, e15, h⟩ := h
        obtain ⟨k16, h⟩ := h
        obtain ⟨b17, h⟩ := h
        refine ex_iald (pc := 51) d_Md_common_51 e15 k16 b17 ?_
        refine ex_aload_n (pc := 52) d_Md_common_52 rfl ?_
        refine ex_getR (pc := 53) d_Md_common_53 rfl rfl k13 ?_
        refine ex_iload (pc := 56) d_Md_common_56 rfl ?_
        obtain ⟨b18, h⟩ := h
        refine ex_iald (pc := 58) d_Md_common_58 e15 k16 b18 ?_
        refine ex_icmp_ne (tgt := 82) (pc := 59) d_Md_common_59 (by decide) (fun g => ?_) (fun g => ?_)
        · replace h := h.1 g
          refine ex_iinc (ls2 := [_, _, _, _, _, _, _]) (pc := 82) d_Md_common_82 rfl rfl ?_
          replace h := h _ rfl
          refine ex_goto (tgt := 17) (pc := 85) d_Md_common_85 (by decide) ?_
          exact h
        · replace h := h.2 g
          refine ex_aload_n (pc := 62) d_Md_common_62 rfl ?_
          refine ex_getR (pc := 63) d_Md_common_63 rfl rfl k13 ?_
          refine ex_iload (pc := 66) d_Md_common_66 rfl ?_
          obtain ⟨q20, e21, h⟩ := h
          obtain ⟨k22, h⟩ := h
          obtain ⟨b23, h⟩ := h
          refine ex_iald (pc := 68) d_Md_common_68 e21 k22 b23 ?_
          refine ex_aload_n (pc := 69) d_Md_common_69 rfl ?_
          refine ex_getR (pc := 70) d_Md_common_70 rfl rfl k13 ?_
          refine ex_iload (pc := 73) d_Md_common_73 rfl ?_
          obtain ⟨b24, h⟩ := h
          refine ex_iald (pc := 75) d_Md_common_75 e21 k22 b24 ?_
          refine ex_icmp_ne (tgt := 82) (pc := 76) d_Md_common_76 (by decide) (fun g => ?_) (fun g => ?_)
          · replace h := h.1 g
            refine ex_iinc (ls2 := [_, _, _, _, _, _, _]) (pc := 82) d_Md_common_82 rfl rfl ?_
            replace h := h _ rfl
            refine ex_goto (tgt := 17) (pc := 85) d_Md_common_85 (by decide) ?_
            exact h
          · replace h := h.2 g
            refine ex_iinc (ls2 := [_, _, _, _, _, _, _]) (pc := 79) d_Md_common_79 rfl rfl ?_
            replace h := h _ rfl
            refine ex_iinc (ls2 := [_, _, _, _, _, _, _]) (pc := 82) d_Md_common_82 rfl rfl ?_
            replace h := h _ rfl
            refine ex_goto (tgt := 17) (pc := 85) d_Md_common_85 (by decide) ?_
            exact h
theorem sg_Md_preaccepted_0 {h0 : Nat} {v1 : Int32} {v2 : Int32} {M : me_M} {Q : Option me_V → me_M → Prop} (h : EX eL X_Md_preaccepted 2 [some (.inr (some h0)), some (.inl v1), some (.inl v2), some (.inl v1)] [] M Q) : EX eL X_Md_preaccepted 0 [some (.inr (some h0)), some (.inl v1), some (.inl v2), none] [] M Q := by
  refine ex_iload_n (pc := 0) d_Md_preaccepted_0 rfl ?_
  refine ex_istore_n (ls2 := [_, _, _, _]) (pc := 1) d_Md_preaccepted_1 (Nat.le_of_ble_eq_true rfl) rfl ?_
  exact h
theorem sg_Md_preaccepted_2 {h0 : Nat} {v1 : Int32} {v2 : Int32} {v3 : Int32} {M : me_M} {Q : Option me_V → me_M → Prop} (h : (((v1 + v2) ≤ v3) → Q (some (.inl (-1 : Int32))) M) ∧ ((¬ (v1 + v2) ≤ v3) → mKd M h0 = 11 ∧ ∃ q2, (mR M 1660 h0 0) = some q2 ∧ mKd M q2 = 100 ∧ vp_in v3 (mLn M q2) ∧ ((¬ (mI M 100 q2 v3.toNatClampNeg) = 1) → ∀ x6, x6 = v3 + Int32.ofInt 1 → EX eL X_Md_preaccepted 2 [some (.inr (some h0)), some (.inl v1), some (.inl v2), some (.inl x6)] [] M Q) ∧ (((mI M 100 q2 v3.toNatClampNeg) = 1) → Q (some (.inl v3)) M))) : EX eL X_Md_preaccepted 2 [some (.inr (some h0)), some (.inl v1), some (.inl v2), some (.inl v3)] [] M Q := by
  refine ex_iload_n (pc := 2) d_Md_preaccepted_2 rfl ?_
  refine ex_iload_n (pc := 3) d_Md_preaccepted_3 rfl ?_
  refine ex_iload_n (pc := 4) d_Md_preaccepted_4 rfl ?_
  refine ex_iadd (pc := 5) d_Md_preaccepted_5 ?_
  refine ex_icmp_ge (tgt := 27) (pc := 6) d_Md_preaccepted_6 (by decide) (fun g => ?_) (fun g => ?_)
  · replace h := h.1 g
    refine ex_iconst (w := (-1 : Int32)) (pc := 27) d_Md_preaccepted_27 (by decide) ?_
    exact ex_ret_i (pc := 28) d_Md_preaccepted_28 rfl h
  · replace h := h.2 g
    refine ex_aload_n (pc := 9) d_Md_preaccepted_9 rfl ?_
    obtain ⟨k1, h⟩ := h
    refine ex_getR (pc := 10) d_Md_preaccepted_10 rfl rfl k1 ?_
    refine ex_iload_n (pc := 13) d_Md_preaccepted_13 rfl ?_
    obtain ⟨q2, e3, h⟩ := h
    obtain ⟨k4, h⟩ := h
    obtain ⟨b5, h⟩ := h
    refine ex_iald (pc := 14) d_Md_preaccepted_14 e3 k4 b5 ?_
    refine ex_iconst (w := 1) (pc := 15) d_Md_preaccepted_15 (by decide) ?_
    refine ex_icmp_ne (tgt := 21) (pc := 16) d_Md_preaccepted_16 (by decide) (fun g => ?_) (fun g => ?_)
    · replace h := h.1 g
      refine ex_iinc (ls2 := [_, _, _, _]) (pc := 21) d_Md_preaccepted_21 rfl rfl ?_
      replace h := h _ rfl
      refine ex_goto (tgt := 2) (pc := 24) d_Md_preaccepted_24 (by decide) ?_
      exact h
    · replace h := h.2 g
      refine ex_iload_n (pc := 19) d_Md_preaccepted_19 rfl ?_
      exact ex_ret_i (pc := 20) d_Md_preaccepted_20 rfl h
