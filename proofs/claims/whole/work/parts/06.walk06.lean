theorem sg_Md_component_0 {h0 : Nat} {v1 : Int32} {M : me_M} {Q : Option me_V → me_M → Prop} (h : EX eL X_Md_component 4 [some (.inr (some h0)), some (.inl v1), some (.inl 0), some (.inl 0)] [] M Q) : EX eL X_Md_component 0 [some (.inr (some h0)), some (.inl v1), none, none] [] M Q := by
  refine ex_iconst (w := 0) (pc := 0) d_Md_component_0 (by decide) ?_
  refine ex_istore_n (ls2 := [_, _, _, _]) (pc := 1) d_Md_component_1 (Nat.le_of_ble_eq_true rfl) rfl ?_
  refine ex_iconst (w := 0) (pc := 2) d_Md_component_2 (by decide) ?_
  refine ex_istore_n (ls2 := [_, _, _, _]) (pc := 3) d_Md_component_3 (Nat.le_of_ble_eq_true rfl) rfl ?_
  exact h
theorem sg_Md_component_4 {h0 : Nat} {v1 : Int32} {v2 : Int32} {v3 : Int32} {M : me_M} {Q : Option me_V → me_M → Prop} (h : mKd M h0 = 11 ∧ (((mI M 1642 h0 0) ≤ v3) → Q (some (.inl v2)) M) ∧ ((¬ (mI M 1642 h0 0) ≤ v3) → ∃ q2, (mR M 1669 h0 0) = some q2 ∧ mKd M q2 = 100 ∧ vp_in v1 (mLn M q2) ∧ ((¬ (((mI M 100 q2 v1.toNatClampNeg) >>> (v3 &&& 31)) &&& 1) = 1) → ∀ x6, x6 = v3 + Int32.ofInt 1 → EX eL X_Md_component 4 [some (.inr (some h0)), some (.inl v1), some (.inl v2), some (.inl x6)] [] M Q) ∧ (((((mI M 100 q2 v1.toNatClampNeg) >>> (v3 &&& 31)) &&& 1) = 1) → vp_in v3 (mLn M q2) ∧ ((¬ (((mI M 100 q2 v3.toNatClampNeg) >>> (v1 &&& 31)) &&& 1) = 1) → ∀ x8, x8 = v3 + Int32.ofInt 1 → EX eL X_Md_component 4 [some (.inr (some h0)), some (.inl v1), some (.inl v2), some (.inl x8)] [] M Q) ∧ (((((mI M 100 q2 v3.toNatClampNeg) >>> (v1 &&& 31)) &&& 1) = 1) → ∀ x9, x9 = (v2 ||| (1 <<< (v3 &&& 31))) → ∀ x10, x10 = v3 + Int32.ofInt 1 → EX eL X_Md_component 4 [some (.inr (some h0)), some (.inl v1), some (.inl x9), some (.inl x10)] [] M Q)))) : EX eL X_Md_component 4 [some (.inr (some h0)), some (.inl v1), some (.inl v2), some (.inl v3)] [] M Q := by
  refine ex_iload_n (pc := 4) d_Md_component_4 rfl ?_
  refine ex_aload_n (pc := 5) d_Md_component_5 rfl ?_
  obtain ⟨k1, h⟩ := h
  refine ex_getI (pc := 6) d_Md_component_6 rfl rfl (by decide) k1 ?_
  refine ex_icmp_ge (tgt := 52) (pc := 9) d_Md_component_9 (by decide) (fun g => ?_) (fun g => ?_)
  · replace h := h.1 g
    refine ex_iload_n (pc := 52) d_Md_component_52 rfl ?_
    exact ex_ret_i (pc := 53) d_Md_component_53 rfl h
  · replace h := h.2 g
    refine ex_aload_n (pc := 12) d_Md_component_12 rfl ?_
    refine ex_getR (pc := 13) d_Md_component_13 rfl rfl k1 ?_
    refine ex_iload_n (pc := 16) d_Md_component_16 rfl ?_
    obtain ⟨q2, e3, h⟩ := h
    obtain ⟨k4, h⟩ := h
    obtain ⟨b5, h⟩ := h
    refine ex_iald (pc := 17) d_Md_component_17 e3 k4 b5 ?_
    refine ex_iload_n (pc := 18) d_Md_component_18 rfl ?_
    refine ex_ishr (pc := 19) d_Md_component_19 ?_
    refine ex_iconst (w := 1) (pc := 20) d_Md_component_20 (by decide) ?_
    refine ex_iand (pc := 21) d_Md_component_21 ?_
    refine ex_iconst (w := 1) (pc := 22) d_Md_component_22 (by decide) ?_
    refine ex_icmp_ne (tgt := 46) (pc := 23) d_Md_component_23 (by decide) (fun g => ?_) (fun g => ?_)
    · replace h := h.1 g
      refine ex_iinc (ls2 := [_, _, _, _]) (pc := 46) d_Md_component_46 rfl rfl ?_
      replace h := h _ rfl
      refine ex_goto (tgt := 4) (pc := 49) d_Md_component_49 (by decide) ?_
      exact h
    · replace h := h.2 g
      refine ex_aload_n (pc := 26) d_Md_component_26 rfl ?_
      refine ex_getR (pc := 27) d_Md_component_27 rfl rfl k1 ?_
      refine ex_iload_n (pc := 30) d_Md_component_30 rfl ?_
      obtain ⟨b7, h⟩ := h
      refine ex_iald (pc := 31) d_Md_component_31 e3 k4 b7 ?_
      refine ex_iload_n (pc := 32) d_Md_component_32 rfl ?_
      refine ex_ishr (pc := 33) d_Md_component_33 ?_
      refine ex_iconst (w := 1) (pc := 34) d_Md_component_34 (by decide) ?_
      refine ex_iand (pc := 35) d_Md_component_35 ?_
      refine ex_iconst (w := 1) (pc := 36) d_Md_component_36 (by decide) ?_
      refine ex_icmp_ne (tgt := 46) (pc := 37) d_Md_component_37 (by decide) (fun g => ?_) (fun g => ?_)
      · replace h := h.1 g
        refine ex_iinc (ls2 := [_, _, _, _]) (pc := 46) d_Md_component_46 rfl rfl ?_
        replace h := h _ rfl
        refine ex_goto (tgt := 4) (pc := 49) d_Md_component_49 (by decide) ?_
        exact h
      · replace h := h.2 g
        refine ex_iload_n (pc := 40) d_Md_component_40 rfl ?_
        refine ex_iconst (w := 1) (pc := 41) d_Md_component_41 (by decide) ?_
        refine ex_iload_n (pc := 42) d_Md_component_42 rfl ?_
        refine ex_ishl (pc := 43) d_Md_component_43 ?_
        refine ex_ior (pc := 44) d_Md_component_44 ?_
        refine ex_istore_n (ls2 := [_, _, _, _]) (pc := 45) d_Md_component_45 (Nat.le_of_ble_eq_true rfl) rfl ?_
        replace h := h _ rfl
        refine ex_iinc (ls2 := [_, _, _, _]) (pc := 46) d_Md_component_46 rfl rfl ?_
        replace h := h _ rfl
        refine ex_goto (tgt := 4) (pc := 49) d_Md_component_49 (by decide) ?_
        exact h
theorem sg_Md_ready_0 {h0 : Nat} {v1 : Int32} {v2 : Int32} {M : me_M} {Q : Option me_V → me_M → Prop} (h : EX eL X_Md_ready 5 [some (.inr (some h0)), some (.inl v1), some (.inl v2), some (.inl v2), some (.inl 0)] [] M Q) : EX eL X_Md_ready 0 [some (.inr (some h0)), some (.inl v1), some (.inl v2), none, none] [] M Q := by
  refine ex_iload_n (pc := 0) d_Md_ready_0 rfl ?_
  refine ex_istore_n (ls2 := [_, _, _, _, _]) (pc := 1) d_Md_ready_1 (Nat.le_of_ble_eq_true rfl) rfl ?_
  refine ex_iconst (w := 0) (pc := 2) d_Md_ready_2 (by decide) ?_
  refine ex_istore (ls2 := [_, _, _, _, _]) (pc := 3) d_Md_ready_3 (Nat.le_of_ble_eq_true rfl) rfl ?_
  exact h
theorem sg_Md_ready_5 {h0 : Nat} {v1 : Int32} {v2 : Int32} {v3 : Int32} {v4 : Int32} {M : me_M} {Q : Option me_V → me_M → Prop} (h : mKd M h0 = 11 ∧ (((mI M 1642 h0 0) ≤ v4) → EX eL X_Md_ready 50 [some (.inr (some h0)), some (.inl v1), some (.inl v2), some (.inl v3), some (.inl 0)] [] M Q) ∧ ((¬ (mI M 1642 h0 0) ≤ v4) → ∃ q2, (mR M 1646 h0 0) = some q2 ∧ mKd M q2 = 100 ∧ vp_in ((30 * v1) + v4) (mLn M q2) ∧ ((¬ (mI M 100 q2 ((30 * v1) + v4).toNatClampNeg) = 4) → ∀ x6, x6 = v4 + Int32.ofInt 1 → EX eL X_Md_ready 5 [some (.inr (some h0)), some (.inl v1), some (.inl v2), some (.inl v3), some (.inl x6)] [] M Q) ∧ (((mI M 100 q2 ((30 * v1) + v4).toNatClampNeg) = 4) → ∀ x7, x7 = (v3 ||| (1 <<< (v4 &&& 31))) → ∀ x8, x8 = v4 + Int32.ofInt 1 → EX eL X_Md_ready 5 [some (.inr (some h0)), some (.inl v1), some (.inl v2), some (.inl x7), some (.inl x8)] [] M Q))) : EX eL X_Md_ready 5 [some (.inr (some h0)), some (.inl v1), some (.inl v2), some (.inl v3), some (.inl v4)] [] M Q := by
  refine ex_iload (pc := 5) d_Md_ready_5 rfl ?_
  refine ex_aload_n (pc := 7) d_Md_ready_7 rfl ?_
  obtain ⟨k1, h⟩ := h
  refine ex_getI (pc := 8) d_Md_ready_8 rfl rfl (by decide) k1 ?_
  refine ex_icmp_ge (tgt := 47) (pc := 11) d_Md_ready_11 (by decide) (fun g => ?_) (fun g => ?_)
  · replace h := h.1 g
    refine ex_iconst (w := 0) (pc := 47) d_Md_ready_47 (by decide) ?_
    refine ex_istore (ls2 := [_, _, _, _, _]) (pc := 48) d_Md_ready_48 (Nat.le_of_ble_eq_true rfl) rfl ?_
    exact h
  · replace h := h.2 g
    refine ex_aload_n (pc := 14) d_Md_ready_14 rfl ?_
    refine ex_getR (pc := 15) d_Md_ready_15 rfl rfl k1 ?_
    refine ex_bipush (w := 30) (pc := 18) d_Md_ready_18 (by decide) ?_
    refine ex_iload_n (pc := 20) d_Md_ready_20 rfl ?_
    refine ex_imul (pc := 21) d_Md_ready_21 ?_
    refine ex_iload (pc := 22) d_Md_ready_22 rfl ?_
    refine ex_iadd (pc := 24) d_Md_ready_24 ?_
    obtain ⟨q2, e3, h⟩ := h
    obtain ⟨k4, h⟩ := h
    obtain ⟨b5, h⟩ := h
    refine ex_iald (pc := 25) d_Md_ready_25 e3 k4 b5 ?_
    refine ex_iconst (w := 4) (pc := 26) d_Md_ready_26 (by decide) ?_
    refine ex_icmp_ne (tgt := 39) (pc := 27) d_Md_ready_27 (by decide) (fun g => ?_) (fun g => ?_)
    · replace h := h.1 g
      refine ex_iload_n (pc := 39) d_Md_ready_39 rfl ?_
      refine ex_istore_n (ls2 := [_, _, _, _, _]) (pc := 40) d_Md_ready_40 (Nat.le_of_ble_eq_true rfl) rfl ?_
      refine ex_iinc (ls2 := [_, _, _, _, _]) (pc := 41) d_Md_ready_41 rfl rfl ?_
      replace h := h _ rfl
      refine ex_goto (tgt := 5) (pc := 44) d_Md_ready_44 (by decide) ?_
      exact h
    · replace h := h.2 g
      refine ex_iload_n (pc := 30) d_Md_ready_30 rfl ?_
      refine ex_iconst (w := 1) (pc := 31) d_Md_ready_31 (by decide) ?_
      refine ex_iload (pc := 32) d_Md_ready_32 rfl ?_
      refine ex_ishl (pc := 34) d_Md_ready_34 ?_
      refine ex_ior (pc := 35) d_Md_ready_35 ?_
      refine ex_goto (tgt := 40) (pc := 36) d_Md_ready_36 (by decide) ?_
      refine ex_istore_n (ls2 := [_, _, _, _, _]) (pc := 40) d_Md_ready_40 (Nat.le_of_ble_eq_true rfl) rfl ?_
      replace h := h _ rfl
      refine ex_iinc (ls2 := [_, _, _, _, _]) (pc := 41) d_Md_ready_41 rfl rfl ?_
      replace h := h _ rfl
      refine ex_goto (tgt := 5) (pc := 44) d_Md_ready_44 (by decide) ?_
      exact h
theorem sg_Md_ready_50 {h0 : Nat} {v1 : Int32} {v2 : Int32} {v3 : Int32} {v4 : Int32} {M : me_M} {Q : Option me_V → me_M → Prop} (h : mKd M h0 = 11 ∧ (((mI M 1642 h0 0) ≤ v4) → ((v2 = 0) → Q (some (.inl 0)) M) ∧ ((¬ v2 = 0) → Q (some (.inl 1)) M)) ∧ ((¬ (mI M 1642 h0 0) ≤ v4) → ((¬ ((v2 >>> (v4 &&& 31)) &&& 1) = 1) → ∀ x2, x2 = v4 + Int32.ofInt 1 → EX eL X_Md_ready 50 [some (.inr (some h0)), some (.inl v1), some (.inl v2), some (.inl v3), some (.inl x2)] [] M Q) ∧ ((((v2 >>> (v4 &&& 31)) &&& 1) = 1) → ∃ q3, (mR M 1650 h0 0) = some q3 ∧ mKd M q3 = 100 ∧ vp_in ((30 * v1) + v4) (mLn M q3) ∧ ((((mI M 100 q3 ((30 * v1) + v4).toNatClampNeg) &&& (v3 ^^^ (-1 : Int32))) = 0) → ∀ x7, x7 = v4 + Int32.ofInt 1 → EX eL X_Md_ready 50 [some (.inr (some h0)), some (.inl v1), some (.inl v2), some (.inl v3), some (.inl x7)] [] M Q) ∧ ((¬ ((mI M 100 q3 ((30 * v1) + v4).toNatClampNeg) &&& (v3 ^^^ (-1 : Int32))) = 0) → Q (some (.inl 0)) M)))) : EX eL X_Md_ready 50 [some (.inr (some h0)), some (.inl v1), some (.inl v2), some (.inl v3), some (.inl v4)] [] M Q := by
  refine ex_iload (pc := 50) d_Md_ready_50 rfl ?_
  refine ex_aload_n (pc := 52) d_Md_ready_52 rfl ?_
  obtain ⟨k1, h⟩ := h
  refine ex_getI (pc := 53) d_Md_ready_53 rfl rfl (by decide) k1 ?_
  refine ex_icmp_ge (tgt := 96) (pc := 56) d_Md_ready_56 (by decide) (fun g => ?_) (fun g => ?_)
  · replace h := h.1 g
    refine ex_iload_n (pc := 96) d_Md_ready_96 rfl ?_
    refine ex_if_eq (tgt := 104) (pc := 97) d_Md_ready_97 (by decide) (fun g => ?_) (fun g => ?_)
    · replace h := h.1 g
      refine ex_iconst (w := 0) (pc := 104) d_Md_ready_104 (by decide) ?_
      exact ex_ret_z (pc := 105) d_Md_ready_105 rfl (Or.inl rfl) h
    · replace h := h.2 g
      refine ex_iconst (w := 1) (pc := 100) d_Md_ready_100 (by decide) ?_
      refine ex_goto (tgt := 105) (pc := 101) d_Md_ready_101 (by decide) ?_
      exact ex_ret_z (pc := 105) d_Md_ready_105 rfl (Or.inr rfl) h
  · replace h := h.2 g
    refine ex_iload_n (pc := 59) d_Md_ready_59 rfl ?_
    refine ex_iload (pc := 60) d_Md_ready_60 rfl ?_
    refine ex_ishr (pc := 62) d_Md_ready_62 ?_
    refine ex_iconst (w := 1) (pc := 63) d_Md_ready_63 (by decide) ?_
    refine ex_iand (pc := 64) d_Md_ready_64 ?_
    refine ex_iconst (w := 1) (pc := 65) d_Md_ready_65 (by decide) ?_
    refine ex_icmp_ne (tgt := 90) (pc := 66) d_Md_ready_66 (by decide) (fun g => ?_) (fun g => ?_)
    · replace h := h.1 g
      refine ex_iinc (ls2 := [_, _, _, _, _]) (pc := 90) d_Md_ready_90 rfl rfl ?_
      replace h := h _ rfl
      refine ex_goto (tgt := 50) (pc := 93) d_Md_ready_93 (by decide) ?_
      exact h
    · replace h := h.2 g
      refine ex_aload_n (pc := 69) d_Md_ready_69 rfl ?_
      refine ex_getR (pc := 70) d_Md_ready_70 rfl rfl k1 ?_
      refine ex_bipush (w := 30) (pc := 73) d_Md_ready_73 (by decide) ?_
      refine ex_iload_n (pc := 75) d_Md_ready_75 rfl ?_
      refine ex_imul (pc := 76) d_Md_ready_76 ?_
      refine ex_iload (pc := 77) d_Md_ready_77 rfl ?_
      refine ex_iadd (pc := 79) d_Md_ready_79 ?_
      obtain ⟨q3, e4, h⟩ := h
      obtain ⟨k5, h⟩ := h
      obtain ⟨b6, h⟩ := h
      refine ex_iald (pc := 80) d_Md_ready_80 e4 k5 b6 ?_
      refine ex_iload_n (pc := 81) d_Md_ready_81 rfl ?_
      refine ex_iconst (w := (-1 : Int32)) (pc := 82) d_Md_ready_82 (by decide) ?_
      refine ex_ixor (pc := 83) d_Md_ready_83 ?_
      refine ex_iand (pc := 84) d_Md_ready_84 ?_
      refine ex_if_eq (tgt := 90) (pc := 85) d_Md_ready_85 (by decide) (fun g => ?_) (fun g => ?_)
      · replace h := h.1 g
        refine ex_iinc (ls2 := [_, _, _, _, _]) (pc := 90) d_Md_ready_90 rfl rfl ?_
        replace h := h _ rfl
        refine ex_goto (tgt := 50) (pc := 93) d_Md_ready_93 (by decide) ?_
        exact h
      · replace h := h.2 g
        refine ex_iconst (w := 0) (pc := 88) d_Md_ready_88 (by decide) ?_
        exact ex_ret_z (pc := 89) d_Md_ready_89 rfl (Or.inl rfl) h
theorem sg_Md_next_0 {h0 : Nat} {v1 : Int32} {v2 : Int32} {M : me_M} {Q : Option me_V → me_M → Prop} (h : mKd M h0 = 11 ∧ ∀ x2, x2 = ((mI M 1642 h0 0) - 1) → EX eL X_Md_next 10 [some (.inr (some h0)), some (.inl v1), some (.inl v2), some (.inl (-1 : Int32)), some (.inl x2)] [] M Q) : EX eL X_Md_next 0 [some (.inr (some h0)), some (.inl v1), some (.inl v2), none, none] [] M Q := by
  refine ex_iconst (w := (-1 : Int32)) (pc := 0) d_Md_next_0 (by decide) ?_
  refine ex_istore_n (ls2 := [_, _, _, _, _]) (pc := 1) d_Md_next_1 (Nat.le_of_ble_eq_true rfl) rfl ?_
  refine ex_aload_n (pc := 2) d_Md_next_2 rfl ?_
  obtain ⟨k1, h⟩ := h
  refine ex_getI (pc := 3) d_Md_next_3 rfl rfl (by decide) k1 ?_
  refine ex_iconst (w := 1) (pc := 6) d_Md_next_6 (by decide) ?_
  refine ex_isub (pc := 7) d_Md_next_7 ?_
  refine ex_istore (ls2 := [_, _, _, _, _]) (pc := 8) d_Md_next_8 (Nat.le_of_ble_eq_true rfl) rfl ?_
  replace h := h _ rfl
  exact h
theorem sg_Md_next_10 {h0 : Nat} {v1 : Int32} {v2 : Int32} {v3 : Int32} {v4 : Int32} {M : me_M} {Q : Option me_V → me_M → Prop} (h : ((v4 < 0) → Q (some (.inl v3)) M) ∧ ((¬ v4 < 0) → ((¬ ((v2 >>> (v4 &&& 31)) &&& 1) = 1) → ∀ x1, x1 = v4 + Int32.ofInt (-1) → EX eL X_Md_next 10 [some (.inr (some h0)), some (.inl v1), some (.inl v2), some (.inl v3), some (.inl x1)] [] M Q) ∧ ((((v2 >>> (v4 &&& 31)) &&& 1) = 1) → ((v3 < 0) → ∀ x2, x2 = v4 + Int32.ofInt (-1) → EX eL X_Md_next 10 [some (.inr (some h0)), some (.inl v1), some (.inl v2), some (.inl v4), some (.inl x2)] [] M Q) ∧ ((¬ v3 < 0) → mKd M h0 = 11 ∧ ∃ q4, (mR M 1649 h0 0) = some q4 ∧ mKd M q4 = 100 ∧ vp_in ((30 * v1) + v4) (mLn M q4) ∧ vp_in ((30 * v1) + v3) (mLn M q4) ∧ (((mI M 100 q4 ((30 * v1) + v3).toNatClampNeg) < (mI M 100 q4 ((30 * v1) + v4).toNatClampNeg)) → ∀ x9, x9 = v4 + Int32.ofInt (-1) → EX eL X_Md_next 10 [some (.inr (some h0)), some (.inl v1), some (.inl v2), some (.inl v3), some (.inl x9)] [] M Q) ∧ ((¬ (mI M 100 q4 ((30 * v1) + v3).toNatClampNeg) < (mI M 100 q4 ((30 * v1) + v4).toNatClampNeg)) → ∀ x10, x10 = v4 + Int32.ofInt (-1) → EX eL X_Md_next 10 [some (.inr (some h0)), some (.inl v1), some (.inl v2), some (.inl v4), some (.inl x10)] [] M Q))))) : EX eL X_Md_next 10 [some (.inr (some h0)), some (.inl v1), some (.inl v2), some (.inl v3), some (.inl v4)] [] M Q := by
  refine ex_iload (pc := 10) d_Md_next_10 rfl ?_
  refine ex_if_lt (tgt := 64) (pc := 12) d_Md_next_12 (by decide) (fun g => ?_) (fun g => ?_)
  · replace h := h.1 g
    refine ex_iload_n (pc := 64) d_Md_next_64 rfl ?_
    exact ex_ret_i (pc := 65) d_Md_next_65 rfl h
  · replace h := h.2 g
    refine ex_iload_n (pc := 15) d_Md_next_15 rfl ?_
    refine ex_iload (pc := 16) d_Md_next_16 rfl ?_
    refine ex_ishr (pc := 18) d_Md_next_18 ?_
    refine ex_iconst (w := 1) (pc := 19) d_Md_next_19 (by decide) ?_
    refine ex_iand (pc := 20) d_Md_next_20 ?_
    refine ex_iconst (w := 1) (pc := 21) d_Md_next_21 (by decide) ?_
    refine ex_icmp_ne (tgt := 58) (pc := 22) d_Md_next_22 (by decide) (fun g => ?_) (fun g => ?_)
    · replace h := h.1 g
      refine ex_iinc (ls2 := [_, _, _, _, _]) (pc := 58) d_Md_next_58 rfl rfl ?_
      replace h := h _ rfl
      refine ex_goto (tgt := 10) (pc := 61) d_Md_next_61 (by decide) ?_
      exact h
    · replace h := h.2 g
      refine ex_iload_n (pc := 25) d_Md_next_25 rfl ?_
      refine ex_if_lt (tgt := 55) (pc := 26) d_Md_next_26 (by decide) (fun g => ?_) (fun g => ?_)
      · replace h := h.1 g
        refine ex_iload (pc := 55) d_Md_next_55 rfl ?_
        refine ex_istore_n (ls2 := [_, _, _, _, _]) (pc := 57) d_Md_next_57 (Nat.le_of_ble_eq_true rfl) rfl ?_
        refine ex_iinc (ls2 := [_, _, _, _, _]) (pc := 58) d_Md_next_58 rfl rfl ?_
        replace h := h _ rfl
        refine ex_goto (tgt := 10) (pc := 61) d_Md_next_61 (by decide) ?_
        exact h
      · replace h := h.2 g
        refine ex_aload_n (pc := 29) d_Md_next_29 rfl ?_
        obtain ⟨k3, h⟩ := h
        refine ex_getR (pc := 30) d_Md_next_30 rfl rfl k3 ?_
        refine ex_bipush (w := 30) (pc := 33) d_Md_next_33 (by decide) ?_
        refine ex_iload_n (pc := 35) d_Md_next_35 rfl ?_
        refine ex_imul (pc := 36) d_Md_next_36 ?_
        refine ex_iload (pc := 37) d_Md_next_37 rfl ?_
        refine ex_iadd (pc := 39) d_Md_next_39 ?_
        obtain ⟨q4, e5, h⟩ := h
        obtain ⟨k6, h⟩ := h
        obtain ⟨b7, h⟩ := h
        refine ex_iald (pc := 40) d_Md_next_40 e5 k6 b7 ?_
        refine ex_aload_n (pc := 41) d_Md_next_41 rfl ?_
        refine ex_getR (pc := 42) d_Md_next_42 rfl rfl k3 ?_
        refine ex_bipush (w := 30) (pc := 45) d_Md_next_45 (by decide) ?_
        refine ex_iload_n (pc := 47) d_Md_next_47 rfl ?_
        refine ex_imul (pc := 48) d_Md_next_48 ?_
        refine ex_iload_n (pc := 49) d_Md_next_49 rfl ?_
        refine ex_iadd (pc := 50) d_Md_next_50 ?_
        obtain ⟨b8, h⟩ := h
        refine ex_iald (pc := 51) d_Md_next_51 e5 k6 b8 ?_
        refine ex_icmp_gt (tgt := 58) (pc := 52) d_Md_next_52 (by decide) (fun g => ?_) (fun g => ?_)
        · replace h := h.1 g
          refine ex_iinc (ls2 := [_, _, _, _, _]) (pc := 58) d_Md_next_58 rfl rfl ?_
          replace h := h _ rfl
          refine ex_goto (tgt := 10) (pc := 61) d_Md_next_61 (by decide) ?_
          exact h
        · replace h := h.2 g
          refine ex_iload (pc := 55) d_Md_next_55 rfl ?_
          refine ex_istore_n (ls2 := [_, _, _, _, _]) (pc := 57) d_Md_next_57 (Nat.le_of_ble_eq_true rfl) rfl ?_
          refine ex_iinc (ls2 := [_, _, _, _, _]) (pc := 58) d_Md_next_58 rfl rfl ?_
          replace h := h _ rfl
          refine ex_goto (tgt := 10) (pc := 61) d_Md_next_61 (by decide) ?_
          exact h
theorem sg_Md_act_0 {h0 : Nat} {v1 : Int32} {v2 : Int32} {M : me_M} {Q : Option me_V → me_M → Prop} (h : ∀ x1, x1 = ((30 * v1) + v2) → mKd M h0 = 11 ∧ ∃ q3, (mR M 1647 h0 0) = some q3 ∧ mKd M q3 = 100 ∧ vp_in x1 (mLn M q3) ∧ ∀ x7, x7 = ((4 * v1) + ((mI M 100 q3 x1.toNatClampNeg) &&& 3)) → vp_in x1 (mLn M q3) ∧ ((¬ (mI M 100 q3 x1.toNatClampNeg) = 8) → ∃ q9, (mR M 1644 h0 0) = some q9 ∧ mKd M q9 = 100 ∧ vp_in x7 (mLn M q9) ∧ ∃ q13, (mR M 1654 h0 0) = some q13 ∧ mKd M q13 = 100 ∧ vp_in x1 (mLn M q13) ∧ ∀ M17, M17 = mSetI M 100 q13 x1.toNatClampNeg (mI M 100 q9 x7.toNatClampNeg) → ∃ q18, (mR M17 1647 h0 0) = some q18 ∧ mKd M17 q18 = 100 ∧ vp_in x1 (mLn M17 q18) ∧ (((mI M17 100 q18 x1.toNatClampNeg) < 4) → ∃ q22, (mR M17 1646 h0 0) = some q22 ∧ mKd M17 q22 = 100 ∧ vp_in x1 (mLn M17 q22) ∧ ∀ M26, M26 = mSetI M17 100 q22 x1.toNatClampNeg 4 → ∃ q27, (mR M26 1645 h0 0) = some q27 ∧ mKd M26 q27 = 100 ∧ vp_in v1 (mLn M26 q27) ∧ ∃ q31, (mR M26 1653 h0 0) = some q31 ∧ mKd M26 q31 = 100 ∧ vp_in x1 (mLn M26 q31) ∧ ∀ M35, M35 = mSetI M26 100 q31 x1.toNatClampNeg (mI M26 100 q27 v1.toNatClampNeg) → ∃ q36, (mR M35 1645 h0 0) = some q36 ∧ mKd M35 q36 = 100 ∧ vp_in v1 (mLn M35 q36) ∧ vp_in v1 (mLn M35 q36) ∧ ∀ M41, M41 = mSetI M35 100 q36 v1.toNatClampNeg ((mI M35 100 q36 v1.toNatClampNeg) + 1) → Q none M41) ∧ ((¬ (mI M17 100 q18 x1.toNatClampNeg) < 4) → vp_in x1 (mLn M17 q18) ∧ ((8 ≤ (mI M17 100 q18 x1.toNatClampNeg)) → ∃ q43, (mR M17 1646 h0 0) = some q43 ∧ mKd M17 q43 = 100 ∧ vp_in x1 (mLn M17 q43) ∧ ∀ M47, M47 = mSetI M17 100 q43 x1.toNatClampNeg 4 → ∃ q48, (mR M47 1645 h0 0) = some q48 ∧ mKd M47 q48 = 100 ∧ vp_in v1 (mLn M47 q48) ∧ ∃ q52, (mR M47 1653 h0 0) = some q52 ∧ mKd M47 q52 = 100 ∧ vp_in x1 (mLn M47 q52) ∧ ∀ M56, M56 = mSetI M47 100 q52 x1.toNatClampNeg (mI M47 100 q48 v1.toNatClampNeg) → ∃ q57, (mR M56 1645 h0 0) = some q57 ∧ mKd M56 q57 = 100 ∧ vp_in v1 (mLn M56 q57) ∧ vp_in v1 (mLn M56 q57) ∧ ∀ M62, M62 = mSetI M56 100 q57 v1.toNatClampNeg ((mI M56 100 q57 v1.toNatClampNeg) + 1) → Q none M62) ∧ ((¬ 8 ≤ (mI M17 100 q18 x1.toNatClampNeg)) → ∃ q63, (mR M17 1648 h0 0) = some q63 ∧ mKd M17 q63 = 100 ∧ vp_in x1 (mLn M17 q63) ∧ ∃ q67, (mR M17 1644 h0 0) = some q67 ∧ mKd M17 q67 = 100 ∧ vp_in x7 (mLn M17 q67) ∧ ∀ M71, M71 = mSetI M17 100 q67 x7.toNatClampNeg (mI M17 100 q63 x1.toNatClampNeg) → ∃ q72, (mR M71 1646 h0 0) = some q72 ∧ mKd M71 q72 = 100 ∧ vp_in x1 (mLn M71 q72) ∧ ∀ M76, M76 = mSetI M71 100 q72 x1.toNatClampNeg 4 → ∃ q77, (mR M76 1645 h0 0) = some q77 ∧ mKd M76 q77 = 100 ∧ vp_in v1 (mLn M76 q77) ∧ ∃ q81, (mR M76 1653 h0 0) = some q81 ∧ mKd M76 q81 = 100 ∧ vp_in x1 (mLn M76 q81) ∧ ∀ M85, M85 = mSetI M76 100 q81 x1.toNatClampNeg (mI M76 100 q77 v1.toNatClampNeg) → ∃ q86, (mR M85 1645 h0 0) = some q86 ∧ mKd M85 q86 = 100 ∧ vp_in v1 (mLn M85 q86) ∧ vp_in v1 (mLn M85 q86) ∧ ∀ M91, M91 = mSetI M85 100 q86 v1.toNatClampNeg ((mI M85 100 q86 v1.toNatClampNeg) + 1) → Q none M91))) ∧ (((mI M 100 q3 x1.toNatClampNeg) = 8) → ∃ q92, (mR M 1654 h0 0) = some q92 ∧ mKd M q92 = 100 ∧ vp_in x1 (mLn M q92) ∧ ∀ M96, M96 = mSetI M 100 q92 x1.toNatClampNeg 0 → ∃ q97, (mR M96 1647 h0 0) = some q97 ∧ mKd M96 q97 = 100 ∧ vp_in x1 (mLn M96 q97) ∧ (((mI M96 100 q97 x1.toNatClampNeg) < 4) → ∃ q101, (mR M96 1646 h0 0) = some q101 ∧ mKd M96 q101 = 100 ∧ vp_in x1 (mLn M96 q101) ∧ ∀ M105, M105 = mSetI M96 100 q101 x1.toNatClampNeg 4 → ∃ q106, (mR M105 1645 h0 0) = some q106 ∧ mKd M105 q106 = 100 ∧ vp_in v1 (mLn M105 q106) ∧ ∃ q110, (mR M105 1653 h0 0) = some q110 ∧ mKd M105 q110 = 100 ∧ vp_in x1 (mLn M105 q110) ∧ ∀ M114, M114 = mSetI M105 100 q110 x1.toNatClampNeg (mI M105 100 q106 v1.toNatClampNeg) → ∃ q115, (mR M114 1645 h0 0) = some q115 ∧ mKd M114 q115 = 100 ∧ vp_in v1 (mLn M114 q115) ∧ vp_in v1 (mLn M114 q115) ∧ ∀ M120, M120 = mSetI M114 100 q115 v1.toNatClampNeg ((mI M114 100 q115 v1.toNatClampNeg) + 1) → Q none M120) ∧ ((¬ (mI M96 100 q97 x1.toNatClampNeg) < 4) → vp_in x1 (mLn M96 q97) ∧ ((8 ≤ (mI M96 100 q97 x1.toNatClampNeg)) → ∃ q122, (mR M96 1646 h0 0) = some q122 ∧ mKd M96 q122 = 100 ∧ vp_in x1 (mLn M96 q122) ∧ ∀ M126, M126 = mSetI M96 100 q122 x1.toNatClampNeg 4 → ∃ q127, (mR M126 1645 h0 0) = some q127 ∧ mKd M126 q127 = 100 ∧ vp_in v1 (mLn M126 q127) ∧ ∃ q131, (mR M126 1653 h0 0) = some q131 ∧ mKd M126 q131 = 100 ∧ vp_in x1 (mLn M126 q131) ∧ ∀ M135, M135 = mSetI M126 100 q131 x1.toNatClampNeg (mI M126 100 q127 v1.toNatClampNeg) → ∃ q136, (mR M135 1645 h0 0) = some q136 ∧ mKd M135 q136 = 100 ∧ vp_in v1 (mLn M135 q136) ∧ vp_in v1 (mLn M135 q136) ∧ ∀ M141, M141 = mSetI M135 100 q136 v1.toNatClampNeg ((mI M135 100 q136 v1.toNatClampNeg) + 1) → Q none M141) ∧ ((¬ 8 ≤ (mI M96 100 q97 x1.toNatClampNeg)) → ∃ q142, (mR M96 1648 h0 0) = some q142 ∧ mKd M96 q142 = 100 ∧ vp_in x1 (mLn M96 q142) ∧ ∃ q146, (mR M96 1644 h0 0) = some q146 ∧ mKd M96 q146 = 100 ∧ vp_in x7 (mLn M96 q146) ∧ ∀ M150, M150 = mSetI M96 100 q146 x7.toNatClampNeg (mI M96 100 q142 x1.toNatClampNeg) → ∃ q151, (mR M150 1646 h0 0) = some q151 ∧ mKd M150 q151 = 100 ∧ vp_in x1 (mLn M150 q151) ∧ ∀ M155, M155 = mSetI M150 100 q151 x1.toNatClampNeg 4 → ∃ q156, (mR M155 1645 h0 0) = some q156 ∧ mKd M155 q156 = 100 ∧ vp_in v1 (mLn M155 q156) ∧ ∃ q160, (mR M155 1653 h0 0) = some q160 ∧ mKd M155 q160 = 100 ∧ vp_in x1 (mLn M155 q160) ∧ ∀ M164, M164 = mSetI M155 100 q160 x1.toNatClampNeg (mI M155 100 q156 v1.toNatClampNeg) → ∃ q165, (mR M164 1645 h0 0) = some q165 ∧ mKd M164 q165 = 100 ∧ vp_in v1 (mLn M164 q165) ∧ vp_in v1 (mLn M164 q165) ∧ ∀ M170, M170 = mSetI M164 100 q165 v1.toNatClampNeg ((mI M164 100 q165 v1.toNatClampNeg) + 1) → Q none M170)))) : EX eL X_Md_act 0 [some (.inr (some h0)), some (.inl v1), some (.inl v2), none, none] [] M Q := by
  refine ex_bipush (w := 30) (pc := 0) d_Md_act_0 (by decide) ?_
  refine ex_iload_n (pc := 2) d_Md_act_2 rfl ?_
  refine ex_imul (pc := 3) d_Md_act_3 ?_
  refine ex_iload_n (pc := 4) d_Md_act_4 rfl ?_
  refine ex_iadd (pc := 5) d_Md_act_5 ?_
  refine ex_istore_n (ls2 := [_, _, _, _, _]) (pc := 6) d_Md_act_6 (Nat.le_of_ble_eq_true rfl) rfl ?_
  replace h := h _ rfl
  refine ex_iconst (w := 4) (pc := 7) d_Md_act_7 (by decide) ?_
  refine ex_iload_n (pc := 8) d_Md_act_8 rfl ?_
  refine ex_imul (pc := 9) d_Md_act_9 ?_
  refine ex_aload_n (pc := 10) d_Md_act_10 rfl ?_
  obtain ⟨k2, h⟩ := h
  refine ex_getR (pc := 11) d_Md_act_11 rfl rfl k2 ?_
  refine ex_iload_n (pc := 14) d_Md_act_14 rfl ?_
  obtain ⟨q3, e4, h⟩ := h
  obtain ⟨k5, h⟩ := h
  obtain ⟨b6, h⟩ := h
  refine ex_iald (pc := 15) d_Md_act_15 e4 k5 b6 ?_
  refine ex_iconst (w := 3) (pc := 16) d_Md_act_16 (by decide) ?_
  refine ex_iand (pc := 17) d_Md_act_17 ?_
  refine ex_iadd (pc := 18) d_Md_act_18 ?_
  refine ex_istore (ls2 := [_, _, _, _, _]) (pc := 19) d_Md_act_19 (Nat.le_of_ble_eq_true rfl) rfl ?_
  replace h := h _ rfl
  refine ex_aload_n (pc := 21) d_Md_act_21 rfl ?_
  refine ex_getR (pc := 22) d_Md_act_22 rfl rfl k2 ?_
  refine ex_iload_n (pc := 25) d_Md_act_25 rfl ?_
  refine ex_aload_n (pc := 26) d_Md_act_26 rfl ?_
  refine ex_getR (pc := 27) d_Md_act_27 rfl rfl k2 ?_
  refine ex_iload_n (pc := 30) d_Md_act_30 rfl ?_
  obtain ⟨b8, h⟩ := h
  refine ex_iald (pc := 31) d_Md_act_31 e4 k5 b8 ?_
  refine ex_bipush (w := 8) (pc := 32) d_Md_act_32 (by decide) ?_
  refine ex_icmp_ne (tgt := 41) (pc := 34) d_Md_act_34 (by decide) (fun g => ?_) (fun g => ?_)
  · replace h := h.1 g
    refine ex_aload_n (pc := 41) d_Md_act_41 rfl ?_
    refine ex_getR (pc := 42) d_Md_act_42 rfl rfl k2 ?_
    refine ex_iload (pc := 45) d_Md_act_45 rfl ?_
    obtain ⟨q9, e10, h⟩ := h
    obtain ⟨k11, h⟩ := h
    obtain ⟨b12, h⟩ := h
    refine ex_iald (pc := 47) d_Md_act_47 e10 k11 b12 ?_
    obtain ⟨q13, e14, h⟩ := h
    obtain ⟨k15, h⟩ := h
    obtain ⟨b16, h⟩ := h
    refine ex_iast (pc := 48) d_Md_act_48 e14 k15 b16 ?_
    replace h := h _ rfl
    refine ex_aload_n (pc := 49) d_Md_act_49 rfl ?_
    refine ex_getR (pc := 50) d_Md_act_50 rfl rfl k2 ?_
    refine ex_iload_n (pc := 53) d_Md_act_53 rfl ?_
    obtain ⟨q18, e19, h⟩ := h
    obtain ⟨k20, h⟩ := h
    obtain ⟨b21, h⟩ := h
    refine ex_iald (pc := 54) d_Md_act_54 e19 k20 b21 ?_
    refine ex_iconst (w := 4) (pc := 55) d_Md_act_55 (by decide) ?_
    refine ex_icmp_lt (tgt := 83) (pc := 56) d_Md_act_56 (by decide) (fun g => ?_) (fun g => ?_)
    · replace h := h.1 g
      refine ex_aload_n (pc := 83) d_Md_act_83 rfl ?_
      refine ex_getR (pc := 84) d_Md_act_84 rfl rfl k2 ?_
      refine ex_iload_n (pc := 87) d_Md_act_87 rfl ?_
      refine ex_iconst (w := 4) (pc := 88) d_Md_act_88 (by decide) ?_
      obtain ⟨q22, e23, h⟩ := h
      obtain ⟨k24, h⟩ := h
      obtain ⟨b25, h⟩ := h
      refine ex_iast (pc := 89) d_Md_act_89 e23 k24 b25 ?_
      replace h := h _ rfl
      refine ex_aload_n (pc := 90) d_Md_act_90 rfl ?_
      refine ex_getR (pc := 91) d_Md_act_91 rfl rfl k2 ?_
      refine ex_iload_n (pc := 94) d_Md_act_94 rfl ?_
      refine ex_aload_n (pc := 95) d_Md_act_95 rfl ?_
      refine ex_getR (pc := 96) d_Md_act_96 rfl rfl k2 ?_
      refine ex_iload_n (pc := 99) d_Md_act_99 rfl ?_
      obtain ⟨q27, e28, h⟩ := h
      obtain ⟨k29, h⟩ := h
      obtain ⟨b30, h⟩ := h
      refine ex_iald (pc := 100) d_Md_act_100 e28 k29 b30 ?_
      obtain ⟨q31, e32, h⟩ := h
      obtain ⟨k33, h⟩ := h
      obtain ⟨b34, h⟩ := h
      refine ex_iast (pc := 101) d_Md_act_101 e32 k33 b34 ?_
      replace h := h _ rfl
      refine ex_aload_n (pc := 102) d_Md_act_102 rfl ?_
      refine ex_getR (pc := 103) d_Md_act_103 rfl rfl k2 ?_
      refine ex_iload_n (pc := 106) d_Md_act_106 rfl ?_
      refine ex_dup2 (pc := 107) d_Md_act_107 ?_
      obtain ⟨q36, e37, h⟩ := h
      obtain ⟨k38, h⟩ := h
      obtain ⟨b39, h⟩ := h
      refine ex_iald (pc := 108) d_Md_act_108 e37 k38 b39 ?_
      refine ex_iconst (w := 1) (pc := 109) d_Md_act_109 (by decide) ?_
      refine ex_iadd (pc := 110) d_Md_act_110 ?_
      obtain ⟨b40, h⟩ := h
      refine ex_iast (pc := 111) d_Md_act_111 e37 k38 b40 ?_
      replace h := h _ rfl
      exact ex_ret_v (pc := 112) d_Md_act_112 rfl h
    · replace h := h.2 g
      refine ex_aload_n (pc := 59) d_Md_act_59 rfl ?_
      refine ex_getR (pc := 60) d_Md_act_60 rfl rfl k2 ?_
      refine ex_iload_n (pc := 63) d_Md_act_63 rfl ?_
      obtain ⟨b42, h⟩ := h
      refine ex_iald (pc := 64) d_Md_act_64 e19 k20 b42 ?_
      refine ex_bipush (w := 8) (pc := 65) d_Md_act_65 (by decide) ?_
      refine ex_icmp_ge (tgt := 83) (pc := 67) d_Md_act_67 (by decide) (fun g => ?_) (fun g => ?_)
      · replace h := h.1 g
        refine ex_aload_n (pc := 83) d_Md_act_83 rfl ?_
        refine ex_getR (pc := 84) d_Md_act_84 rfl rfl k2 ?_
        refine ex_iload_n (pc := 87) d_Md_act_87 rfl ?_
        refine ex_iconst (w := 4) (pc := 88) d_Md_act_88 (by decide) ?_
        obtain ⟨q43, e44, h⟩ := h
        obtain ⟨k45, h⟩ := h
        obtain ⟨b46, h⟩ := h
        refine ex_iast (pc := 89) d_Md_act_89 e44 k45 b46 ?_
        replace h := h _ rfl
        refine ex_aload_n (pc := 90) d_Md_act_90 rfl ?_
        refine ex_getR (pc := 91) d_Md_act_91 rfl rfl k2 ?_
        refine ex_iload_n (pc := 94) d_Md_act_94 rfl ?_
        refine ex_aload_n (pc := 95) d_Md_act_95 rfl ?_
        refine ex_getR (pc := 96) d_Md_act_96 rfl rfl k2 ?_
        refine ex_iload_n (pc := 99) d_Md_act_99 rfl ?_
        obtain ⟨q48, e49, h⟩ := h
        obtain ⟨k50, h⟩ := h
        obtain ⟨b51, h⟩ := h
        refine ex_iald (pc := 100) d_Md_act_100 e49 k50 b51 ?_
        obtain ⟨q52, e53, h⟩ := h
        obtain ⟨k54, h⟩ := h
        obtain ⟨b55, h⟩ := h
        refine ex_iast (pc := 101) d_Md_act_101 e53 k54 b55 ?_
        replace h := h _ rfl
        refine ex_aload_n (pc := 102) d_Md_act_102 rfl ?_
        refine ex_getR (pc := 103) d_Md_act_103 rfl rfl k2 ?_
        refine ex_iload_n (pc := 106) d_Md_act_106 rfl ?_
        refine ex_dup2 (pc := 107) d_Md_act_107 ?_
        obtain ⟨q57, e58, h⟩ := h
        obtain ⟨k59, h⟩ := h
        obtain ⟨b60, h⟩ := h
        refine ex_iald (pc := 108) d_Md_act_108 e58 k59 b60 ?_
        refine ex_iconst (w := 1) (pc := 109) d_Md_act_109 (by decide) ?_
        refine ex_iadd (pc := 110) d_Md_act_110 ?_
        obtain ⟨b61, h⟩ := h
        refine ex_iast (pc := 111) d_Md_act_111 e58 k59 b61 ?_
        replace h := h _ rfl
        exact ex_ret_v (pc := 112) d_Md_act_112 rfl h
      · replace h := h.2 g
        refine ex_aload_n (pc := 70) d_Md_act_70 rfl ?_
        refine ex_getR (pc := 71) d_Md_act_71 rfl rfl k2 ?_
        refine ex_iload (pc := 74) d_Md_act_74 rfl ?_
        refine ex_aload_n (pc := 76) d_Md_act_76 rfl ?_
        refine ex_getR (pc := 77) d_Md_act_77 rfl rfl k2 ?_
        refine ex_iload_n (pc := 80) d_Md_act_80 rfl ?_
        obtain ⟨q63, e64, h⟩ := h
        obtain ⟨k65, h⟩ := h
        obtain ⟨b66, h⟩ := h
        refine ex_iald (pc := 81) d_Md_act_81 e64 k65 b66 ?_
        obtain ⟨q67, e68, h⟩ := h
        obtain ⟨k69, h⟩ := h
        obtain ⟨b70, h⟩ := h
        refine ex_iast (pc := 82) d_Md_act_82 e68 k69 b70 ?_
        replace h := h _ rfl
        refine ex_aload_n (pc := 83) d_Md_act_83 rfl ?_
        refine ex_getR (pc := 84) d_Md_act_84 rfl rfl k2 ?_
        refine ex_iload_n (pc := 87) d_Md_act_87 rfl ?_
        refine ex_iconst (w := 4) (pc := 88) d_Md_act_88 (by decide) ?_
        obtain ⟨q72, e73, h⟩ := h
        obtain ⟨k74, h⟩ := h
        obtain ⟨b75, h⟩ := h
        refine ex_iast (pc := 89) d_Md_act_89 e73 k74 b75 ?_
        replace h := h _ rfl
        refine ex_aload_n (pc := 90) d_Md_act_90 rfl ?_
        refine ex_getR (pc := 91) d_Md_act_91 rfl rfl k2 ?_
        refine ex_iload_n (pc := 94) d_Md_act_94 rfl ?_
        refine ex_aload_n (pc := 95) d_Md_act_95 rfl ?_
        refine ex_getR (pc := 96) d_Md_act_96 rfl rfl k2 ?_
        refine ex_iload_n (pc := 99) d_Md_act_99 rfl ?_
        obtain ⟨q77, e78, h⟩ := h
        obtain ⟨k79, h⟩ := h
        obtain ⟨b80, h⟩ := h
        refine ex_iald (pc := 100) d_Md_act_100 e78 k79 b80 ?_
        obtain ⟨q81, e82, h⟩ := h
        obtain ⟨k83, h⟩ := h
        obtain ⟨b84, h⟩ := h
        refine ex_iast (pc := 101) d_Md_act_101 e82 k83 b84 ?_
        replace h := h _ rfl
        refine ex_aload_n (pc := 102) d_Md_act_102 rfl ?_
        refine ex_getR (pc := 103) d_Md_act_103 rfl rfl k2 ?_
        refine ex_iload_n (pc := 106) d_Md_act_106 rfl ?_
        refine ex_dup2 (pc := 107) d_Md_act_107 ?_
        obtain ⟨q86, e87, h⟩ := h
        obtain ⟨k88, h⟩ := h
        obtain ⟨b89, h⟩ := h
        refine ex_iald (pc := 108) d_Md_act_108 e87 k88 b89 ?_
        refine ex_iconst (w := 1) (pc := 109) d_Md_act_109 (by decide) ?_
        refine ex_iadd (pc := 110) d_Md_act_110 ?_
        obtain ⟨b90, h⟩ := h
        refine ex_iast (pc := 111) d_Md_act_111 e87 k88 b90 ?_
        replace h := h _ rfl
        exact ex_ret_v (pc := 112) d_Md_act_112 rfl h
  · replace h := h.2 g
    refine ex_iconst (w := 0) (pc := 37) d_Md_act_37 (by decide) ?_
    refine ex_goto (tgt := 48) (pc := 38) d_Md_act_38 (by decide) ?_
    obtain ⟨q92, e93, h⟩ := h
    obtain ⟨k94, h⟩ := h
    obtain ⟨b95, h⟩ := h
    refine ex_iast (pc := 48) d_Md_act_48 e93 k94 b95 ?_
    replace h := h _ rfl
    refine ex_aload_n (pc := 49) d_Md_act_49 rfl ?_
    refine ex_getR (pc := 50) d_Md_act_50 rfl rfl k2 ?_
    refine ex_iload_n (pc := 53) d_Md_act_53 rfl ?_
    obtain ⟨q97, e98, h⟩ := h
    obtain ⟨k99, h⟩ := h
    obtain ⟨b100, h⟩ := h
    refine ex_iald (pc := 54) d_Md_act_54 e98 k99 b100 ?_
    refine ex_iconst (w := 4) (pc := 55) d_Md_act_55 (by decide) ?_
    refine ex_icmp_lt (tgt := 83) (pc := 56) d_Md_act_56 (by decide) (fun g => ?_) (fun g => ?_)
    · replace h := h.1 g
      refine ex_aload_n (pc := 83) d_Md_act_83 rfl ?_
      refine ex_getR (pc := 84) d_Md_act_84 rfl rfl k2 ?_
      refine ex_iload_n (pc := 87) d_Md_act_87 rfl ?_
      refine ex_iconst (w := 4) (pc := 88) d_Md_act_88 (by decide) ?_
      obtain ⟨q101, e102, h⟩ := h
      obtain ⟨k103, h⟩ := h
      obtain ⟨b104, h⟩ := h
      refine ex_iast (pc := 89) d_Md_act_89 e102 k103 b104 ?_
      replace h := h _ rfl
      refine ex_aload_n (pc := 90) d_Md_act_90 rfl ?_
      refine ex_getR (pc := 91) d_Md_act_91 rfl rfl k2 ?_
      refine ex_iload_n (pc := 94) d_Md_act_94 rfl ?_
      refine ex_aload_n (pc := 95) d_Md_act_95 rfl ?_
      refine ex_getR (pc := 96) d_Md_act_96 rfl rfl k2 ?_
      refine ex_iload_n (pc := 99) d_Md_act_99 rfl ?_
      obtain ⟨q106, e107, h⟩ := h
      obtain ⟨k108, h⟩ := h
      obtain ⟨b109, h⟩ := h
      refine ex_iald (pc := 100) d_Md_act_100 e107 k108 b109 ?_
      obtain ⟨q110, e111, h⟩ := h
      obtain ⟨k112, h⟩ := h
      obtain ⟨b113, h⟩ := h
      refine ex_iast (pc := 101) d_Md_act_101 e111 k112 b113 ?_
      replace h := h _ rfl
      refine ex_aload_n (pc := 102) d_Md_act_102 rfl ?_
      refine ex_getR (pc := 103) d_Md_act_103 rfl rfl k2 ?_
      refine ex_iload_n (pc := 106) d_Md_act_106 rfl ?_
      refine ex_dup2 (pc := 107) d_Md_act_107 ?_
      obtain ⟨q115, e116, h⟩ := h
      obtain ⟨k117, h⟩ := h
      obtain ⟨b118, h⟩ := h
      refine ex_iald (pc := 108) d_Md_act_108 e116 k117 b118 ?_
      refine ex_iconst (w := 1) (pc := 109) d_Md_act_109 (by decide) ?_
      refine ex_iadd (pc := 110) d_Md_act_110 ?_
      obtain ⟨b119, h⟩ := h
      refine ex_iast (pc := 111) d_Md_act_111 e116 k117 b119 ?_
      replace h := h _ rfl
      exact ex_ret_v (pc := 112) d_Md_act_112 rfl h
    · replace h := h.2 g
      refine ex_aload_n (pc := 59) d_Md_act_59 rfl ?_
      refine ex_getR (pc := 60) d_Md_act_60 rfl rfl k2 ?_
      refine ex_iload_n (pc := 63) d_Md_act_63 rfl ?_
      obtain ⟨b121, h⟩ := h
      refine ex_iald (pc := 64) d_Md_act_64 e98 k99 b121 ?_
      refine ex_bipush (w := 8) (pc := 65) d_Md_act_65 (by decide) ?_
      refine ex_icmp_ge (tgt := 83) (pc := 67) d_Md_act_67 (by decide) (fun g => ?_) (fun g => ?_)
      · replace h := h.1 g
        refine ex_aload_n (pc := 83) d_Md_act_83 rfl ?_
        refine ex_getR (pc := 84) d_Md_act_84 rfl rfl k2 ?_
        refine ex_iload_n (pc := 87) d_Md_act_87 rfl ?_
        refine ex_iconst (w := 4) (pc := 88) d_Md_act_88 (by decide) ?_
        obtain ⟨q122, e123, h⟩ := h
        obtain ⟨k124, h⟩ := h
        obtain ⟨b125, h⟩ := h
        refine ex_iast (pc := 89) d_Md_act_89 e123 k124 b125 ?_
        replace h := h _ rfl
        refine ex_aload_n (pc := 90) d_Md_act_90 rfl ?_
        refine ex_getR (pc := 91) d_Md_act_91 rfl rfl k2 ?_
        refine ex_iload_n (pc := 94) d_Md_act_94 rfl ?_
        refine ex_aload_n (pc := 95) d_Md_act_95 rfl ?_
        refine ex_getR (pc := 96) d_Md_act_96 rfl rfl k2 ?_
        refine ex_iload_n (pc := 99) d_Md_act_99 rfl ?_
        obtain ⟨q127, e128, h⟩ := h
        obtain ⟨k129, h⟩ := h
        obtain ⟨b130, h⟩ := h
        refine ex_iald (pc := 100) d_Md_act_100 e128 k129 b130 ?_
        obtain ⟨q131, e132, h⟩ := h
        obtain ⟨k133, h⟩ := h
        obtain ⟨b134, h⟩ := h
        refine ex_iast (pc := 101) d_Md_act_101 e132 k133 b134 ?_
        replace h := h _ rfl
        refine ex_aload_n (pc := 102) d_Md_act_102 rfl ?_
        refine ex_getR (pc := 103) d_Md_act_103 rfl rfl k2 ?_
        refine ex_iload_n (pc := 106) d_Md_act_106 rfl ?_
        refine ex_dup2 (pc := 107) d_Md_act_107 ?_
        obtain ⟨q136, e137, h⟩ := h
        obtain ⟨k138, h⟩ := h
        obtain ⟨b139, h⟩ := h
        refine ex_iald (pc := 108) d_Md_act_108 e137 k138 b139 ?_
        refine ex_iconst (w := 1) (pc := 109) d_Md_act_109 (by decide) ?_
        refine ex_iadd (pc := 110) d_Md_act_110 ?_
        obtain ⟨b140, h⟩ := h
        refine ex_iast (pc := 111) d_Md_act_111 e137 k138 b140 ?_
        replace h := h _ rfl
        exact ex_ret_v (pc := 112) d_Md_act_112 rfl h
      · replace h := h.2 g
        refine ex_aload_n (pc := 70) d_Md_act_70 rfl ?_
        refine ex_getR (pc := 71) d_Md_act_71 rfl rfl k2 ?_
        refine ex_iload (pc := 74) d_Md_act_74 rfl ?_
        refine ex_aload_n (pc := 76) d_Md_act_76 rfl ?_
        refine ex_getR (pc := 77) d_Md_act_77 rfl rfl k2 ?_
        refine ex_iload_n (pc := 80) d_Md_act_80 rfl ?_
        obtain ⟨q142, e143, h⟩ := h
        obtain ⟨k144, h⟩ := h
        obtain ⟨b145, h⟩ := h
        refine ex_iald (pc := 81) d_Md_act_81 e143 k144 b145 ?_
        obtain ⟨q146, e147, h⟩ := h
        obtain ⟨k148, h⟩ := h
        obtain ⟨b149, h⟩ := h
        refine ex_iast (pc := 82) d_Md_act_82 e147 k148 b149 ?_
        replace h := h _ rfl
        refine ex_aload_n (pc := 83) d_Md_act_83 rfl ?_
        refine ex_getR (pc := 84) d_Md_act_84 rfl rfl k2 ?_
        refine ex_iload_n (pc := 87) d_Md_act_87 rfl ?_
        refine ex_iconst (w := 4) (pc := 88) d_Md_act_88 (by decide) ?_
        obtain ⟨q151, e152, h⟩ := h
        obtain ⟨k153, h⟩ := h
        obtain ⟨b154, h⟩ := h
        refine ex_iast (pc := 89) d_Md_act_89 e152 k153 b154 ?_
        replace h := h _ rfl
        refine ex_aload_n (pc := 90) d_Md_act_90 rfl ?_
        refine ex_getR (pc := 91) d_Md_act_91 rfl rfl k2 ?_
        refine ex_iload_n (pc := 94) d_Md_act_94 rfl ?_
        refine ex_aload_n (pc := 95) d_Md_act_95 rfl ?_
        refine ex_getR (pc := 96) d_Md_act_96 rfl rfl k2 ?_
        refine ex_iload_n (pc := 99) d_Md_act_99 rfl ?_
        obtain ⟨q156, e157, h⟩ := h
        obtain ⟨k158, h⟩ := h
        obtain ⟨b159, h⟩ := h
        refine ex_iald (pc := 100) d_Md_act_100 e157 k158 b159 ?_
        obtain ⟨q160, e161, h⟩ := h
        obtain ⟨k162, h⟩ := h
        obtain ⟨b163, h⟩ := h
        refine ex_iast (pc := 101) d_Md_act_101 e161 k162 b163 ?_
        replace h := h _ rfl
        refine ex_aload_n (pc := 102) d_Md_act_102 rfl ?_
        refine ex_getR (pc := 103) d_Md_act_103 rfl rfl k2 ?_
        refine ex_iload_n (pc := 106) d_Md_act_106 rfl ?_
        refine ex_dup2 (pc := 107) d_Md_act_107 ?_
        obtain ⟨q165, e166, h⟩ := h
        obtain ⟨k167, h⟩ := h
        obtain ⟨b168, h⟩ := h
        refine ex_iald (pc := 108) d_Md_act_108 e166 k167 b168 ?_
        refine ex_iconst (w := 1) (pc := 109) d_Md_act_109 (by decide) ?_
        refine ex_iadd (pc := 110) d_Md_act_110 ?_
        obtain ⟨b169, h⟩ := h
        refine ex_iast (pc := 111) d_Md_act_111 e166 k167 b169 ?_
        replace h := h _ rfl
        exact ex_ret_v (pc := 112) d_Md_act_112 rfl h
theorem sg_Md_execute_0 {h0 : Nat} {v1 : Int32} {M : me_M} {Q : Option me_V → me_M → Prop} (h : ((v1 < 0) → Q (some (.inl (-1 : Int32))) M) ∧ ((¬ v1 < 0) → mKd M h0 = 11 ∧ (((mI M 1640 h0 0) ≤ v1) → Q (some (.inl (-1 : Int32))) M) ∧ ((¬ (mI M 1640 h0 0) ≤ v1) → ∃ q2, (mR M 1643 h0 0) = some q2 ∧ mKd M q2 = 101 ∧ vp_in v1 (mLn M q2) ∧ (((mI M 101 q2 v1.toNatClampNeg) = 0) → ∃ q6, (mR M 1645 h0 0) = some q6 ∧ mKd M q6 = 100 ∧ vp_in v1 (mLn M q6) ∧ ∀ x10, x10 = (mI M 100 q6 v1.toNatClampNeg) → EX eL X_Md_execute 35 [some (.inr (some h0)), some (.inl v1), some (.inl x10), some (.inl 1), some (.inl 0), none, none, none] [] M Q) ∧ ((¬ (mI M 101 q2 v1.toNatClampNeg) = 0) → Q (some (.inl (-1 : Int32))) M)))) : EX eL X_Md_execute 0 [some (.inr (some h0)), some (.inl v1), none, none, none, none, none, none] [] M Q := by
  refine ex_iload_n (pc := 0) d_Md_execute_0 rfl ?_
  refine ex_if_lt (tgt := 21) (pc := 1) d_Md_execute_1 (by decide) (fun g => ?_) (fun g => ?_)
  · replace h := h.1 g
    refine ex_iconst (w := (-1 : Int32)) (pc := 21) d_Md_execute_21 (by decide) ?_
    exact ex_ret_i (pc := 22) d_Md_execute_22 rfl h
  · replace h := h.2 g
    refine ex_iload_n (pc := 4) d_Md_execute_4 rfl ?_
    refine ex_aload_n (pc := 5) d_Md_execute_5 rfl ?_
    obtain ⟨k1, h⟩ := h
    refine ex_getI (pc := 6) d_Md_execute_6 rfl rfl (by decide) k1 ?_
    refine ex_icmp_ge (tgt := 21) (pc := 9) d_Md_execute_9 (by decide) (fun g => ?_) (fun g => ?_)
    · replace h := h.1 g
      refine ex_iconst (w := (-1 : Int32)) (pc := 21) d_Md_execute_21 (by decide) ?_
      exact ex_ret_i (pc := 22) d_Md_execute_22 rfl h
    · replace h := h.2 g
      refine ex_aload_n (pc := 12) d_Md_execute_12 rfl ?_
      refine ex_getR (pc := 13) d_Md_execute_13 rfl rfl k1 ?_
      refine ex_iload_n (pc := 16) d_Md_execute_16 rfl ?_
      obtain ⟨q2, e3, h⟩ := h
      obtain ⟨k4, h⟩ := h
      obtain ⟨b5, h⟩ := h
      refine ex_zald (pc := 17) d_Md_execute_17 e3 k4 b5 ?_
      refine ex_if_eq (tgt := 23) (pc := 18) d_Md_execute_18 (by decide) (fun g => ?_) (fun g => ?_)
      · replace h := h.1 g
        refine ex_aload_n (pc := 23) d_Md_execute_23 rfl ?_
        refine ex_getR (pc := 24) d_Md_execute_24 rfl rfl k1 ?_
        refine ex_iload_n (pc := 27) d_Md_execute_27 rfl ?_
        obtain ⟨q6, e7, h⟩ := h
        obtain ⟨k8, h⟩ := h
        obtain ⟨b9, h⟩ := h
        refine ex_iald (pc := 28) d_Md_execute_28 e7 k8 b9 ?_
        refine ex_istore_n (ls2 := [_, _, _, _, _, _, _, _]) (pc := 29) d_Md_execute_29 (Nat.le_of_ble_eq_true rfl) rfl ?_
        replace h := h _ rfl
        refine ex_iconst (w := 1) (pc := 30) d_Md_execute_30 (by decide) ?_
        refine ex_istore_n (ls2 := [_, _, _, _, _, _, _, _]) (pc := 31) d_Md_execute_31 (Nat.le_of_ble_eq_true rfl) rfl ?_
        refine ex_iconst (w := 0) (pc := 32) d_Md_execute_32 (by decide) ?_
        refine ex_istore (ls2 := [_, _, _, _, _, _, _, _]) (pc := 33) d_Md_execute_33 (Nat.le_of_ble_eq_true rfl) rfl ?_
        exact h
      · replace h := h.2 g
        refine ex_iconst (w := (-1 : Int32)) (pc := 21) d_Md_execute_21 (by decide) ?_
        exact ex_ret_i (pc := 22) d_Md_execute_22 rfl h
theorem sg_Md_execute_35 {h0 : Nat} {v1 : Int32} {v2 : Int32} {v3 : Int32} {v4 : Int32} {M : me_M} {Q : Option me_V → me_M → Prop} (h : ((31 ≤ v4) → mKd M h0 = 11 ∧ ∃ q2, (mR M 1645 h0 0) = some q2 ∧ mKd M q2 = 100 ∧ vp_in v1 (mLn M q2) ∧ Q (some (.inl ((mI M 100 q2 v1.toNatClampNeg) - v2))) M) ∧ ((¬ 31 ≤ v4) → ((v3 = 0) → mKd M h0 = 11 ∧ ∃ q7, (mR M 1645 h0 0) = some q7 ∧ mKd M q7 = 100 ∧ vp_in v1 (mLn M q7) ∧ Q (some (.inl ((mI M 100 q7 v1.toNatClampNeg) - v2))) M) ∧ ((¬ v3 = 0) → mKd M h0 = 11 ∧ EX eL X_Md_reachable 0 [some (.inr (some h0)), some (.inl v1), none, none, none] [] M (fun r13 M12 => r13 = none ∧ mKd M12 h0 = 11 ∧ ∀ x15, x15 = ((mI M12 1642 h0 0) - 1) → EX eL X_Md_execute 62 [some (.inr (some h0)), some (.inl v1), some (.inl v2), none, some (.inl v4), some (.inl 0), some (.inl x15), none] [] M12 Q)))) : EX eL X_Md_execute 35 [some (.inr (some h0)), some (.inl v1), some (.inl v2), some (.inl v3), some (.inl v4), none, none, none] [] M Q := by
  refine ex_iload (pc := 35) d_Md_execute_35 rfl ?_
  refine ex_bipush (w := 31) (pc := 37) d_Md_execute_37 (by decide) ?_
  refine ex_icmp_ge (tgt := 165) (pc := 39) d_Md_execute_39 (by decide) (fun g => ?_) (fun g => ?_)
  · replace h := h.1 g
    refine ex_aload_n (pc := 165) d_Md_execute_165 rfl ?_
    obtain ⟨k1, h⟩ := h
    refine ex_getR (pc := 166) d_Md_execute_166 rfl rfl k1 ?_
    refine ex_iload_n (pc := 169) d_Md_execute_169 rfl ?_
    obtain ⟨q2, e3, h⟩ := h
    obtain ⟨k4, h⟩ := h
    obtain ⟨b5, h⟩ := h
    refine ex_iald (pc := 170) d_Md_execute_170 e3 k4 b5 ?_
    refine ex_iload_n (pc := 171) d_Md_execute_171 rfl ?_
    refine ex_isub (pc := 172) d_Md_execute_172 ?_
    exact ex_ret_i (pc := 173) d_Md_execute_173 rfl h
  · replace h := h.2 g
    refine ex_iload_n (pc := 42) d_Md_execute_42 rfl ?_
    refine ex_if_eq (tgt := 165) (pc := 43) d_Md_execute_43 (by decide) (fun g => ?_) (fun g => ?_)
    · replace h := h.1 g
      refine ex_aload_n (pc := 165) d_Md_execute_165 rfl ?_
      obtain ⟨k6, h⟩ := h
      refine ex_getR (pc := 166) d_Md_execute_166 rfl rfl k6 ?_
      refine ex_iload_n (pc := 169) d_Md_execute_169 rfl ?_
      obtain ⟨q7, e8, h⟩ := h
      obtain ⟨k9, h⟩ := h
      obtain ⟨b10, h⟩ := h
      refine ex_iald (pc := 170) d_Md_execute_170 e8 k9 b10 ?_
      refine ex_iload_n (pc := 171) d_Md_execute_171 rfl ?_
      refine ex_isub (pc := 172) d_Md_execute_172 ?_
      exact ex_ret_i (pc := 173) d_Md_execute_173 rfl h
    · replace h := h.2 g
      refine ex_aload_n (pc := 46) d_Md_execute_46 rfl ?_
      refine ex_iload_n (pc := 47) d_Md_execute_47 rfl ?_
      obtain ⟨k11, h⟩ := h
      refine ex_cVV (as := [_]) (st := []) (pc := 48) rfl rfl k11 rfl rfl rfl (Nat.le_of_ble_eq_true rfl) (EX.mono h fun r13 M12 h => ?_)
      obtain ⟨rfl, h⟩ := h
      refine ⟨rfl, ?_⟩
      refine ex_iconst (w := 0) (pc := 51) d_Md_execute_51 (by decide) ?_
      refine ex_istore (ls2 := [_, _, _, _, _, _, _, _]) (pc := 52) d_Md_execute_52 (Nat.le_of_ble_eq_true rfl) rfl ?_
      refine ex_aload_n (pc := 54) d_Md_execute_54 rfl ?_
      obtain ⟨k14, h⟩ := h
      refine ex_getI (pc := 55) d_Md_execute_55 rfl rfl (by decide) k14 ?_
      refine ex_iconst (w := 1) (pc := 58) d_Md_execute_58 (by decide) ?_
      refine ex_isub (pc := 59) d_Md_execute_59 ?_
      refine ex_istore (ls2 := [_, _, _, _, _, _, _, _]) (pc := 60) d_Md_execute_60 (Nat.le_of_ble_eq_true rfl) rfl ?_
      replace h := h _ rfl
      refine ex_drop (k := 3) (ls2 := [_, _, _, _, _, _, _, _]) rfl ?_
      exact h
theorem sg_Md_execute_62 {h0 : Nat} {v1 : Int32} {v2 : Int32} {v4 : Int32} {v5 : Int32} {v6 : Int32} {M : me_M} {Q : Option me_V → me_M → Prop} (h : ((v6 < 0) → ((v5 = 0) → EX eL X_Md_execute 114 [some (.inr (some h0)), some (.inl v1), some (.inl v2), some (.inl 0), some (.inl v4), some (.inl v5), some (.inl 0), none] [] M Q) ∧ ((¬ v5 = 0) → EX eL X_Md_execute 114 [some (.inr (some h0)), some (.inl v1), some (.inl v2), some (.inl 1), some (.inl v4), some (.inl v5), some (.inl 0), none] [] M Q)) ∧ ((¬ v6 < 0) → mKd M h0 = 11 ∧ EX eL X_Md_component 0 [some (.inr (some h0)), some (.inl v6), none, none] [] M (fun r3 M2 => ∃ x4, r3 = some (.inl x4) ∧ mKd M2 h0 = 11 ∧ EX eL X_Md_ready 0 [some (.inr (some h0)), some (.inl v1), some (.inl x4), none, none] [] M2 (fun r7 M6 => ∃ x8, r7 = some (.inl x8) ∧ ((x8 = 0) → ∀ x9, x9 = v6 + Int32.ofInt (-1) → EX eL X_Md_execute 62 [some (.inr (some h0)), some (.inl v1), some (.inl v2), none, some (.inl v4), some (.inl v5), some (.inl x9), none] [] M6 Q) ∧ ((¬ x8 = 0) → ∀ x10, x10 = v6 + Int32.ofInt (-1) → EX eL X_Md_execute 62 [some (.inr (some h0)), some (.inl v1), some (.inl v2), none, some (.inl v4), some (.inl x4), some (.inl x10), none] [] M6 Q))))) : EX eL X_Md_execute 62 [some (.inr (some h0)), some (.inl v1), some (.inl v2), none, some (.inl v4), some (.inl v5), some (.inl v6), none] [] M Q := by
  refine ex_iload (pc := 62) d_Md_execute_62 rfl ?_
  refine ex_if_lt (tgt := 100) (pc := 64) d_Md_execute_64 (by decide) (fun g => ?_) (fun g => ?_)
  · replace h := h.1 g
    refine ex_iload (pc := 100) d_Md_execute_100 rfl ?_
    refine ex_if_eq (tgt := 109) (pc := 102) d_Md_execute_102 (by decide) (fun g => ?_) (fun g => ?_)
    · replace h := h.1 g
      refine ex_iconst (w := 0) (pc := 109) d_Md_execute_109 (by decide) ?_
      refine ex_istore_n (ls2 := [_, _, _, _, _, _, _, _]) (pc := 110) d_Md_execute_110 (Nat.le_of_ble_eq_true rfl) rfl ?_
      refine ex_iconst (w := 0) (pc := 111) d_Md_execute_111 (by decide) ?_
      refine ex_istore (ls2 := [_, _, _, _, _, _, _, _]) (pc := 112) d_Md_execute_112 (Nat.le_of_ble_eq_true rfl) rfl ?_
      exact h
    · replace h := h.2 g
      refine ex_iconst (w := 1) (pc := 105) d_Md_execute_105 (by decide) ?_
      refine ex_goto (tgt := 110) (pc := 106) d_Md_execute_106 (by decide) ?_
      refine ex_istore_n (ls2 := [_, _, _, _, _, _, _, _]) (pc := 110) d_Md_execute_110 (Nat.le_of_ble_eq_true rfl) rfl ?_
      refine ex_iconst (w := 0) (pc := 111) d_Md_execute_111 (by decide) ?_
      refine ex_istore (ls2 := [_, _, _, _, _, _, _, _]) (pc := 112) d_Md_execute_112 (Nat.le_of_ble_eq_true rfl) rfl ?_
      exact h
  · replace h := h.2 g
    refine ex_aload_n (pc := 67) d_Md_execute_67 rfl ?_
    refine ex_iload (pc := 68) d_Md_execute_68 rfl ?_
    obtain ⟨k1, h⟩ := h
    refine ex_cVI (as := [_]) (st := []) (pc := 70) rfl rfl k1 rfl rfl rfl (Nat.le_of_ble_eq_true rfl) (EX.mono h fun r3 M2 h => ?_)
    obtain ⟨x4, rfl, h⟩ := h
    refine ⟨_, rfl, ?_⟩
    refine ex_istore (ls2 := [_, _, _, _, _, _, _, _]) (pc := 73) d_Md_execute_73 (Nat.le_of_ble_eq_true rfl) rfl ?_
    refine ex_aload_n (pc := 75) d_Md_execute_75 rfl ?_
    refine ex_iload_n (pc := 76) d_Md_execute_76 rfl ?_
    refine ex_iload (pc := 77) d_Md_execute_77 rfl ?_
    obtain ⟨k5, h⟩ := h
    refine ex_cVI (as := [_, _]) (st := []) (pc := 79) rfl rfl k5 rfl rfl rfl (Nat.le_of_ble_eq_true rfl) (EX.mono h fun r7 M6 h => ?_)
    obtain ⟨x8, rfl, h⟩ := h
    refine ⟨_, rfl, ?_⟩
    refine ex_if_eq (tgt := 90) (pc := 82) d_Md_execute_82 (by decide) (fun g => ?_) (fun g => ?_)
    · replace h := h.1 g
      refine ex_iload (pc := 90) d_Md_execute_90 rfl ?_
      refine ex_istore (ls2 := [_, _, _, _, _, _, _, _]) (pc := 92) d_Md_execute_92 (Nat.le_of_ble_eq_true rfl) rfl ?_
      refine ex_iinc (ls2 := [_, _, _, _, _, _, _, _]) (pc := 94) d_Md_execute_94 rfl rfl ?_
      replace h := h _ rfl
      refine ex_goto (tgt := 62) (pc := 97) d_Md_execute_97 (by decide) ?_
      refine ex_drop (k := 7) (ls2 := [_, _, _, _, _, _, _, _]) rfl ?_
      exact h
    · replace h := h.2 g
      refine ex_iload (pc := 85) d_Md_execute_85 rfl ?_
      refine ex_goto (tgt := 92) (pc := 87) d_Md_execute_87 (by decide) ?_
      refine ex_istore (ls2 := [_, _, _, _, _, _, _, _]) (pc := 92) d_Md_execute_92 (Nat.le_of_ble_eq_true rfl) rfl ?_
      refine ex_iinc (ls2 := [_, _, _, _, _, _, _, _]) (pc := 94) d_Md_execute_94 rfl rfl ?_
      replace h := h _ rfl
      refine ex_goto (tgt := 62) (pc := 97) d_Md_execute_97 (by decide) ?_
      refine ex_drop (k := 7) (ls2 := [_, _, _, _, _, _, _, _]) rfl ?_
      exact h
theorem sg_Md_execute_114 {h0 : Nat} {v1 : Int32} {v2 : Int32} {v3 : Int32} {v4 : Int32} {v5 : Int32} {v6 : Int32} {M : me_M} {Q : Option me_V → me_M → Prop} (h : ((30 ≤ v6) → ∀ x1, x1 = v4 + Int32.ofInt 1 → EX eL X_Md_execute 35 [some (.inr (some h0)), some (.inl v1), some (.inl v2), some (.inl v3), some (.inl x1), none, none, none] [] M Q) ∧ ((¬ 30 ≤ v6) → ((v5 = 0) → ∀ x2, x2 = v4 + Int32.ofInt 1 → EX eL X_Md_execute 35 [some (.inr (some h0)), some (.inl v1), some (.inl v2), some (.inl v3), some (.inl x2), none, none, none] [] M Q) ∧ ((¬ v5 = 0) → mKd M h0 = 11 ∧ EX eL X_Md_next 0 [some (.inr (some h0)), some (.inl v1), some (.inl v5), none, none] [] M (fun r5 M4 => ∃ x6, r5 = some (.inl x6) ∧ mKd M4 h0 = 11 ∧ EX eL X_Md_act 0 [some (.inr (some h0)), some (.inl v1), some (.inl x6), none, none] [] M4 (fun r9 M8 => r9 = none ∧ ∀ x10, x10 = (v5 &&& ((1 <<< (x6 &&& 31)) ^^^ (-1 : Int32))) → ∀ x11, x11 = v6 + Int32.ofInt 1 → EX eL X_Md_execute 114 [some (.inr (some h0)), some (.inl v1), some (.inl v2), some (.inl v3), some (.inl v4), some (.inl x10), some (.inl x11), none] [] M8 Q))))) : EX eL X_Md_execute 114 [some (.inr (some h0)), some (.inl v1), some (.inl v2), some (.inl v3), some (.inl v4), some (.inl v5), some (.inl v6), none] [] M Q := by
  refine ex_iload (pc := 114) d_Md_execute_114 rfl ?_
  refine ex_bipush (w := 30) (pc := 116) d_Md_execute_116 (by decide) ?_
  refine ex_icmp_ge (tgt := 159) (pc := 118) d_Md_execute_118 (by decide) (fun g => ?_) (fun g => ?_)
  · replace h := h.1 g
    refine ex_iinc (ls2 := [_, _, _, _, _, _, _, _]) (pc := 159) d_Md_execute_159 rfl rfl ?_
    replace h := h _ rfl
    refine ex_goto (tgt := 35) (pc := 162) d_Md_execute_162 (by decide) ?_
    refine ex_drop (k := 5) (ls2 := [_, _, _, _, _, _, _, _]) rfl ?_
    refine ex_drop (k := 6) (ls2 := [_, _, _, _, _, _, _, _]) rfl ?_
    exact h
  · replace h := h.2 g
    refine ex_iload (pc := 121) d_Md_execute_121 rfl ?_
    refine ex_if_eq (tgt := 159) (pc := 123) d_Md_execute_123 (by decide) (fun g => ?_) (fun g => ?_)
    · replace h := h.1 g
      refine ex_iinc (ls2 := [_, _, _, _, _, _, _, _]) (pc := 159) d_Md_execute_159 rfl rfl ?_
      replace h := h _ rfl
      refine ex_goto (tgt := 35) (pc := 162) d_Md_execute_162 (by decide) ?_
      refine ex_drop (k := 5) (ls2 := [_, _, _, _, _, _, _, _]) rfl ?_
      refine ex_drop (k := 6) (ls2 := [_, _, _, _, _, _, _, _]) rfl ?_
      exact h
    · replace h := h.2 g
      refine ex_aload_n (pc := 126) d_Md_execute_126 rfl ?_
      refine ex_iload_n (pc := 127) d_Md_execute_127 rfl ?_
      refine ex_iload (pc := 128) d_Md_execute_128 rfl ?_
      obtain ⟨k3, h⟩ := h
      refine ex_cVI (as := [_, _]) (st := []) (pc := 130) rfl rfl k3 rfl rfl rfl (Nat.le_of_ble_eq_true rfl) (EX.mono h fun r5 M4 h => ?_)
      obtain ⟨x6, rfl, h⟩ := h
      refine ⟨_, rfl, ?_⟩
      refine ex_istore (ls2 := [_, _, _, _, _, _, _, _]) (pc := 133) d_Md_execute_133 (Nat.le_of_ble_eq_true rfl) rfl ?_
      refine ex_aload_n (pc := 135) d_Md_execute_135 rfl ?_
      refine ex_iload_n (pc := 136) d_Md_execute_136 rfl ?_
      refine ex_iload (pc := 137) d_Md_execute_137 rfl ?_
      obtain ⟨k7, h⟩ := h
      refine ex_cVV (as := [_, _]) (st := []) (pc := 139) rfl rfl k7 rfl rfl rfl (Nat.le_of_ble_eq_true rfl) (EX.mono h fun r9 M8 h => ?_)
      obtain ⟨rfl, h⟩ := h
      refine ⟨rfl, ?_⟩
      refine ex_iload (pc := 142) d_Md_execute_142 rfl ?_
      refine ex_iconst (w := 1) (pc := 144) d_Md_execute_144 (by decide) ?_
      refine ex_iload (pc := 145) d_Md_execute_145 rfl ?_
      refine ex_ishl (pc := 147) d_Md_execute_147 ?_
      refine ex_iconst (w := (-1 : Int32)) (pc := 148) d_Md_execute_148 (by decide) ?_
      refine ex_ixor (pc := 149) d_Md_execute_149 ?_
      refine ex_iand (pc := 150) d_Md_execute_150 ?_
      refine ex_istore (ls2 := [_, _, _, _, _, _, _, _]) (pc := 151) d_Md_execute_151 (Nat.le_of_ble_eq_true rfl) rfl ?_
      replace h := h _ rfl
      refine ex_iinc (ls2 := [_, _, _, _, _, _, _, _]) (pc := 153) d_Md_execute_153 rfl rfl ?_
      replace h := h _ rfl
      refine ex_goto (tgt := 114) (pc := 156) d_Md_execute_156 (by decide) ?_
      refine ex_drop (k := 7) (ls2 := [_, _, _, _, _, _, _, _]) rfl ?_
      exact h
theorem sg_Md_waiting_0 {h0 : Nat} {M : me_M} {Q : Option me_V → me_M → Prop} (h : mKd M h0 = 11 ∧ Q (some (.inl (mI M 1666 h0 0))) M) : EX eL X_Md_waiting 0 [some (.inr (some h0))] [] M Q := by
  refine ex_aload_n (pc := 0) d_Md_waiting_0 rfl ?_
  obtain ⟨k1, h⟩ := h
  refine ex_getI (pc := 1) d_Md_waiting_1 rfl rfl (by decide) k1 ?_
  exact ex_ret_i (pc := 4) d_Md_waiting_4 rfl h
theorem sg_Md_message_0 {h0 : Nat} {v1 : Int32} {M : me_M} {Q : Option me_V → me_M → Prop} (h : ((v1 < 0) → Q (some (.inl (-1 : Int32))) M) ∧ ((¬ v1 < 0) → mKd M h0 = 11 ∧ ((v1 < (mI M 1666 h0 0)) → ∀ x2, x2 = (11 * v1) → ∃ q3, (mR M 1668 h0 0) = some q3 ∧ mKd M q3 = 100 ∧ vp_in x2 (mLn M q3) ∧ vp_in (x2 + 1) (mLn M q3) ∧ vp_in (x2 + 2) (mLn M q3) ∧ vp_in (x2 + 3) (mLn M q3) ∧ Q (some (.inl ((((mI M 100 q3 x2.toNatClampNeg) + (8 * (mI M 100 q3 (x2 + 1).toNatClampNeg))) + (64 * (mI M 100 q3 (x2 + 2).toNatClampNeg))) + (512 * (mI M 100 q3 (x2 + 3).toNatClampNeg))))) M) ∧ ((¬ v1 < (mI M 1666 h0 0)) → Q (some (.inl (-1 : Int32))) M))) : EX eL X_Md_message 0 [some (.inr (some h0)), some (.inl v1), none] [] M Q := by
  refine ex_iload_n (pc := 0) d_Md_message_0 rfl ?_
  refine ex_if_lt (tgt := 12) (pc := 1) d_Md_message_1 (by decide) (fun g => ?_) (fun g => ?_)
  · replace h := h.1 g
    refine ex_iconst (w := (-1 : Int32)) (pc := 12) d_Md_message_12 (by decide) ?_
    exact ex_ret_i (pc := 13) d_Md_message_13 rfl h
  · replace h := h.2 g
    refine ex_iload_n (pc := 4) d_Md_message_4 rfl ?_
    refine ex_aload_n (pc := 5) d_Md_message_5 rfl ?_
    obtain ⟨k1, h⟩ := h
    refine ex_getI (pc := 6) d_Md_message_6 rfl rfl (by decide) k1 ?_
    refine ex_icmp_lt (tgt := 14) (pc := 9) d_Md_message_9 (by decide) (fun g => ?_) (fun g => ?_)
    · replace h := h.1 g
      refine ex_bipush (w := 11) (pc := 14) d_Md_message_14 (by decide) ?_
      refine ex_iload_n (pc := 16) d_Md_message_16 rfl ?_
      refine ex_imul (pc := 17) d_Md_message_17 ?_
      refine ex_istore_n (ls2 := [_, _, _]) (pc := 18) d_Md_message_18 (Nat.le_of_ble_eq_true rfl) rfl ?_
      replace h := h _ rfl
      refine ex_aload_n (pc := 19) d_Md_message_19 rfl ?_
      refine ex_getR (pc := 20) d_Md_message_20 rfl rfl k1 ?_
      refine ex_iload_n (pc := 23) d_Md_message_23 rfl ?_
      obtain ⟨q3, e4, h⟩ := h
      obtain ⟨k5, h⟩ := h
      obtain ⟨b6, h⟩ := h
      refine ex_iald (pc := 24) d_Md_message_24 e4 k5 b6 ?_
      refine ex_bipush (w := 8) (pc := 25) d_Md_message_25 (by decide) ?_
      refine ex_aload_n (pc := 27) d_Md_message_27 rfl ?_
      refine ex_getR (pc := 28) d_Md_message_28 rfl rfl k1 ?_
      refine ex_iload_n (pc := 31) d_Md_message_31 rfl ?_
      refine ex_iconst (w := 1) (pc := 32) d_Md_message_32 (by decide) ?_
      refine ex_iadd (pc := 33) d_Md_message_33 ?_
      obtain ⟨b7, h⟩ := h
      refine ex_iald (pc := 34) d_Md_message_34 e4 k5 b7 ?_
      refine ex_imul (pc := 35) d_Md_message_35 ?_
      refine ex_iadd (pc := 36) d_Md_message_36 ?_
      refine ex_bipush (w := 64) (pc := 37) d_Md_message_37 (by decide) ?_
      refine ex_aload_n (pc := 39) d_Md_message_39 rfl ?_
      refine ex_getR (pc := 40) d_Md_message_40 rfl rfl k1 ?_
      refine ex_iload_n (pc := 43) d_Md_message_43 rfl ?_
      refine ex_iconst (w := 2) (pc := 44) d_Md_message_44 (by decide) ?_
      refine ex_iadd (pc := 45) d_Md_message_45 ?_
      obtain ⟨b8, h⟩ := h
      refine ex_iald (pc := 46) d_Md_message_46 e4 k5 b8 ?_
      refine ex_imul (pc := 47) d_Md_message_47 ?_
      refine ex_iadd (pc := 48) d_Md_message_48 ?_
      refine ex_sipush (w := 512) (pc := 49) d_Md_message_49 (by decide) ?_
      refine ex_aload_n (pc := 52) d_Md_message_52 rfl ?_
      refine ex_getR (pc := 53) d_Md_message_53 rfl rfl k1 ?_
      refine ex_iload_n (pc := 56) d_Md_message_56 rfl ?_
      refine ex_iconst (w := 3) (pc := 57) d_Md_message_57 (by decide) ?_
      refine ex_iadd (pc := 58) d_Md_message_58 ?_
      obtain ⟨b9, h⟩ := h
      refine ex_iald (pc := 59) d_Md_message_59 e4 k5 b9 ?_
      refine ex_imul (pc := 60) d_Md_message_60 ?_
      refine ex_iadd (pc := 61) d_Md_message_61 ?_
      exact ex_ret_i (pc := 62) d_Md_message_62 rfl h
    · replace h := h.2 g
      refine ex_iconst (w := (-1 : Int32)) (pc := 12) d_Md_message_12 (by decide) ?_
      exact ex_ret_i (pc := 13) d_Md_message_13 rfl h
theorem sg_Md_lost_0 {h0 : Nat} {M : me_M} {Q : Option me_V → me_M → Prop} (h : mKd M h0 = 11 ∧ Q (some (.inl (mI M 1667 h0 0))) M) : EX eL X_Md_lost 0 [some (.inr (some h0))] [] M Q := by
  refine ex_aload_n (pc := 0) d_Md_lost_0 rfl ?_
  obtain ⟨k1, h⟩ := h
  refine ex_getI (pc := 1) d_Md_lost_1 rfl rfl (by decide) k1 ?_
  exact ex_ret_i (pc := 4) d_Md_lost_4 rfl h
theorem sg_Md_named_0 {h0 : Nat} {v1 : Int32} {v2 : Int32} {M : me_M} {Q : Option me_V → me_M → Prop} (h : mKd M h0 = 11 ∧ EX eL X_Md_known 0 [some (.inr (some h0)), some (.inl v1), some (.inl v2)] [] M (fun r3 M2 => ∃ x4, r3 = some (.inl x4) ∧ ((x4 = 0) → Q (some (.inl 0)) M2) ∧ ((¬ x4 = 0) → mKd M2 h0 = 11 ∧ ∃ q6, (mR M2 1646 h0 0) = some q6 ∧ mKd M2 q6 = 100 ∧ vp_in ((30 * v1) + v2) (mLn M2 q6) ∧ (((mI M2 100 q6 ((30 * v1) + v2).toNatClampNeg) = 0) → Q (some (.inl 0)) M2) ∧ ((¬ (mI M2 100 q6 ((30 * v1) + v2).toNatClampNeg) = 0) → Q (some (.inl 1)) M2)))) : EX eL X_Md_named 0 [some (.inr (some h0)), some (.inl v1), some (.inl v2)] [] M Q := by
  refine ex_aload_n (pc := 0) d_Md_named_0 rfl ?_
  refine ex_iload_n (pc := 1) d_Md_named_1 rfl ?_
  refine ex_iload_n (pc := 2) d_Md_named_2 rfl ?_
  obtain ⟨k1, h⟩ := h
  refine ex_cVI (as := [_, _]) (st := []) (pc := 3) rfl rfl k1 rfl rfl rfl (Nat.le_of_ble_eq_true rfl) (EX.mono h fun r3 M2 h => ?_)
  obtain ⟨x4, rfl, h⟩ := h
  refine ⟨_, rfl, ?_⟩
  refine ex_if_eq (tgt := 27) (pc := 6) d_Md_named_6 (by decide) (fun g => ?_) (fun g => ?_)
  · replace h := h.1 g
    refine ex_iconst (w := 0) (pc := 27) d_Md_named_27 (by decide) ?_
    exact ex_ret_z (pc := 28) d_Md_named_28 rfl (Or.inl rfl) h
  · replace h := h.2 g
    refine ex_aload_n (pc := 9) d_Md_named_9 rfl ?_
    obtain ⟨k5, h⟩ := h
    refine ex_getR (pc := 10) d_Md_named_10 rfl rfl k5 ?_
    refine ex_bipush (w := 30) (pc := 13) d_Md_named_13 (by decide) ?_
    refine ex_iload_n (pc := 15) d_Md_named_15 rfl ?_
    refine ex_imul (pc := 16) d_Md_named_16 ?_
    refine ex_iload_n (pc := 17) d_Md_named_17 rfl ?_
    refine ex_iadd (pc := 18) d_Md_named_18 ?_
    obtain ⟨q6, e7, h⟩ := h
    obtain ⟨k8, h⟩ := h
    obtain ⟨b9, h⟩ := h
    refine ex_iald (pc := 19) d_Md_named_19 e7 k8 b9 ?_
    refine ex_if_eq (tgt := 27) (pc := 20) d_Md_named_20 (by decide) (fun g => ?_) (fun g => ?_)
    · replace h := h.1 g
      refine ex_iconst (w := 0) (pc := 27) d_Md_named_27 (by decide) ?_
      exact ex_ret_z (pc := 28) d_Md_named_28 rfl (Or.inl rfl) h
    · replace h := h.2 g
      refine ex_iconst (w := 1) (pc := 23) d_Md_named_23 (by decide) ?_
      refine ex_goto (tgt := 28) (pc := 24) d_Md_named_24 (by decide) ?_
      exact ex_ret_z (pc := 28) d_Md_named_28 rfl (Or.inr rfl) h
theorem sg_Md_state_0 {h0 : Nat} {v1 : Int32} {v2 : Int32} {M : me_M} {Q : Option me_V → me_M → Prop} (h : mKd M h0 = 11 ∧ EX eL X_Md_known 0 [some (.inr (some h0)), some (.inl v1), some (.inl v2)] [] M (fun r3 M2 => ∃ x4, r3 = some (.inl x4) ∧ ((x4 = 0) → Q (some (.inl (-1 : Int32))) M2) ∧ ((¬ x4 = 0) → mKd M2 h0 = 11 ∧ ∃ q6, (mR M2 1646 h0 0) = some q6 ∧ mKd M2 q6 = 100 ∧ vp_in ((30 * v1) + v2) (mLn M2 q6) ∧ Q (some (.inl (mI M2 100 q6 ((30 * v1) + v2).toNatClampNeg))) M2))) : EX eL X_Md_state 0 [some (.inr (some h0)), some (.inl v1), some (.inl v2)] [] M Q := by
  refine ex_aload_n (pc := 0) d_Md_state_0 rfl ?_
  refine ex_iload_n (pc := 1) d_Md_state_1 rfl ?_
  refine ex_iload_n (pc := 2) d_Md_state_2 rfl ?_
  obtain ⟨k1, h⟩ := h
  refine ex_cVI (as := [_, _]) (st := []) (pc := 3) rfl rfl k1 rfl rfl rfl (Nat.le_of_ble_eq_true rfl) (EX.mono h fun r3 M2 h => ?_)
  obtain ⟨x4, rfl, h⟩ := h
  refine ⟨_, rfl, ?_⟩
  refine ex_if_eq (tgt := 23) (pc := 6) d_Md_state_6 (by decide) (fun g => ?_) (fun g => ?_)
  · replace h := h.1 g
    refine ex_iconst (w := (-1 : Int32)) (pc := 23) d_Md_state_23 (by decide) ?_
    exact ex_ret_i (pc := 24) d_Md_state_24 rfl h
  · replace h := h.2 g
    refine ex_aload_n (pc := 9) d_Md_state_9 rfl ?_
    obtain ⟨k5, h⟩ := h
    refine ex_getR (pc := 10) d_Md_state_10 rfl rfl k5 ?_
    refine ex_bipush (w := 30) (pc := 13) d_Md_state_13 (by decide) ?_
    refine ex_iload_n (pc := 15) d_Md_state_15 rfl ?_
    refine ex_imul (pc := 16) d_Md_state_16 ?_
    refine ex_iload_n (pc := 17) d_Md_state_17 rfl ?_
    refine ex_iadd (pc := 18) d_Md_state_18 ?_
    obtain ⟨q6, e7, h⟩ := h
    obtain ⟨k8, h⟩ := h
    obtain ⟨b9, h⟩ := h
    refine ex_iald (pc := 19) d_Md_state_19 e7 k8 b9 ?_
    refine ex_goto (tgt := 24) (pc := 20) d_Md_state_20 (by decide) ?_
    exact ex_ret_i (pc := 24) d_Md_state_24 rfl h
theorem sg_Md_command_0 {h0 : Nat} {v1 : Int32} {v2 : Int32} {M : me_M} {Q : Option me_V → me_M → Prop} (h : mKd M h0 = 11 ∧ EX eL X_Md_named 0 [some (.inr (some h0)), some (.inl v1), some (.inl v2)] [] M (fun r3 M2 => ∃ x4, r3 = some (.inl x4) ∧ ((x4 = 0) → Q (some (.inl (-1 : Int32))) M2) ∧ ((¬ x4 = 0) → mKd M2 h0 = 11 ∧ ∃ q6, (mR M2 1647 h0 0) = some q6 ∧ mKd M2 q6 = 100 ∧ vp_in ((30 * v1) + v2) (mLn M2 q6) ∧ Q (some (.inl (mI M2 100 q6 ((30 * v1) + v2).toNatClampNeg))) M2))) : EX eL X_Md_command 0 [some (.inr (some h0)), some (.inl v1), some (.inl v2)] [] M Q := by
  refine ex_aload_n (pc := 0) d_Md_command_0 rfl ?_
  refine ex_iload_n (pc := 1) d_Md_command_1 rfl ?_
  refine ex_iload_n (pc := 2) d_Md_command_2 rfl ?_
  obtain ⟨k1, h⟩ := h
  refine ex_cVI (as := [_, _]) (st := []) (pc := 3) rfl rfl k1 rfl rfl rfl (Nat.le_of_ble_eq_true rfl) (EX.mono h fun r3 M2 h => ?_)
  obtain ⟨x4, rfl, h⟩ := h
  refine ⟨_, rfl, ?_⟩
  refine ex_if_eq (tgt := 23) (pc := 6) d_Md_command_6 (by decide) (fun g => ?_) (fun g => ?_)
  · replace h := h.1 g
    refine ex_iconst (w := (-1 : Int32)) (pc := 23) d_Md_command_23 (by decide) ?_
    exact ex_ret_i (pc := 24) d_Md_command_24 rfl h
  · replace h := h.2 g
    refine ex_aload_n (pc := 9) d_Md_command_9 rfl ?_
    obtain ⟨k5, h⟩ := h
    refine ex_getR (pc := 10) d_Md_command_10 rfl rfl k5 ?_
    refine ex_bipush (w := 30) (pc := 13) d_Md_command_13 (by decide) ?_
    refine ex_iload_n (pc := 15) d_Md_command_15 rfl ?_
    refine ex_imul (pc := 16) d_Md_command_16 ?_
    refine ex_iload_n (pc := 17) d_Md_command_17 rfl ?_
    refine ex_iadd (pc := 18) d_Md_command_18 ?_
    obtain ⟨q6, e7, h⟩ := h
    obtain ⟨k8, h⟩ := h
    obtain ⟨b9, h⟩ := h
    refine ex_iald (pc := 19) d_Md_command_19 e7 k8 b9 ?_
    refine ex_goto (tgt := 24) (pc := 20) d_Md_command_20 (by decide) ?_
    exact ex_ret_i (pc := 24) d_Md_command_24 rfl h
theorem sg_Md_seq_0 {h0 : Nat} {v1 : Int32} {v2 : Int32} {M : me_M} {Q : Option me_V → me_M → Prop} (h : mKd M h0 = 11 ∧ EX eL X_Md_named 0 [some (.inr (some h0)), some (.inl v1), some (.inl v2)] [] M (fun r3 M2 => ∃ x4, r3 = some (.inl x4) ∧ ((x4 = 0) → Q (some (.inl (-1 : Int32))) M2) ∧ ((¬ x4 = 0) → mKd M2 h0 = 11 ∧ ∃ q6, (mR M2 1649 h0 0) = some q6 ∧ mKd M2 q6 = 100 ∧ vp_in ((30 * v1) + v2) (mLn M2 q6) ∧ Q (some (.inl (mI M2 100 q6 ((30 * v1) + v2).toNatClampNeg))) M2))) : EX eL X_Md_seq 0 [some (.inr (some h0)), some (.inl v1), some (.inl v2)] [] M Q := by
  refine ex_aload_n (pc := 0) d_Md_seq_0 rfl ?_
  refine ex_iload_n (pc := 1) d_Md_seq_1 rfl ?_
  refine ex_iload_n (pc := 2) d_Md_seq_2 rfl ?_
  obtain ⟨k1, h⟩ := h
  refine ex_cVI (as := [_, _]) (st := []) (pc := 3) rfl rfl k1 rfl rfl rfl (Nat.le_of_ble_eq_true rfl) (EX.mono h fun r3 M2 h => ?_)
  obtain ⟨x4, rfl, h⟩ := h
  refine ⟨_, rfl, ?_⟩
  refine ex_if_eq (tgt := 23) (pc := 6) d_Md_seq_6 (by decide) (fun g => ?_) (fun g => ?_)
  · replace h := h.1 g
    refine ex_iconst (w := (-1 : Int32)) (pc := 23) d_Md_seq_23 (by decide) ?_
    exact ex_ret_i (pc := 24) d_Md_seq_24 rfl h
  · replace h := h.2 g
    refine ex_aload_n (pc := 9) d_Md_seq_9 rfl ?_
    obtain ⟨k5, h⟩ := h
    refine ex_getR (pc := 10) d_Md_seq_10 rfl rfl k5 ?_
    refine ex_bipush (w := 30) (pc := 13) d_Md_seq_13 (by decide) ?_
    refine ex_iload_n (pc := 15) d_Md_seq_15 rfl ?_
    refine ex_imul (pc := 16) d_Md_seq_16 ?_
    refine ex_iload_n (pc := 17) d_Md_seq_17 rfl ?_
    refine ex_iadd (pc := 18) d_Md_seq_18 ?_
    obtain ⟨q6, e7, h⟩ := h
    obtain ⟨k8, h⟩ := h
    obtain ⟨b9, h⟩ := h
    refine ex_iald (pc := 19) d_Md_seq_19 e7 k8 b9 ?_
    refine ex_goto (tgt := 24) (pc := 20) d_Md_seq_20 (by decide) ?_
    exact ex_ret_i (pc := 24) d_Md_seq_24 rfl h
theorem sg_Md_deps_0 {h0 : Nat} {v1 : Int32} {v2 : Int32} {M : me_M} {Q : Option me_V → me_M → Prop} (h : mKd M h0 = 11 ∧ EX eL X_Md_named 0 [some (.inr (some h0)), some (.inl v1), some (.inl v2)] [] M (fun r3 M2 => ∃ x4, r3 = some (.inl x4) ∧ ((x4 = 0) → Q (some (.inl (-1 : Int32))) M2) ∧ ((¬ x4 = 0) → mKd M2 h0 = 11 ∧ ∃ q6, (mR M2 1650 h0 0) = some q6 ∧ mKd M2 q6 = 100 ∧ vp_in ((30 * v1) + v2) (mLn M2 q6) ∧ Q (some (.inl (mI M2 100 q6 ((30 * v1) + v2).toNatClampNeg))) M2))) : EX eL X_Md_deps 0 [some (.inr (some h0)), some (.inl v1), some (.inl v2)] [] M Q := by
  refine ex_aload_n (pc := 0) d_Md_deps_0 rfl ?_
  refine ex_iload_n (pc := 1) d_Md_deps_1 rfl ?_
  refine ex_iload_n (pc := 2) d_Md_deps_2 rfl ?_
  obtain ⟨k1, h⟩ := h
  refine ex_cVI (as := [_, _]) (st := []) (pc := 3) rfl rfl k1 rfl rfl rfl (Nat.le_of_ble_eq_true rfl) (EX.mono h fun r3 M2 h => ?_)
  obtain ⟨x4, rfl, h⟩ := h
  refine ⟨_, rfl, ?_⟩
  refine ex_if_eq (tgt := 23) (pc := 6) d_Md_deps_6 (by decide) (fun g => ?_) (fun g => ?_)
  · replace h := h.1 g
    refine ex_iconst (w := (-1 : Int32)) (pc := 23) d_Md_deps_23 (by decide) ?_
    exact ex_ret_i (pc := 24) d_Md_deps_24 rfl h
  · replace h := h.2 g
    refine ex_aload_n (pc := 9) d_Md_deps_9 rfl ?_
    obtain ⟨k5, h⟩ := h
    refine ex_getR (pc := 10) d_Md_deps_10 rfl rfl k5 ?_
    refine ex_bipush (w := 30) (pc := 13) d_Md_deps_13 (by decide) ?_
    refine ex_iload_n (pc := 15) d_Md_deps_15 rfl ?_
    refine ex_imul (pc := 16) d_Md_deps_16 ?_
    refine ex_iload_n (pc := 17) d_Md_deps_17 rfl ?_
    refine ex_iadd (pc := 18) d_Md_deps_18 ?_
    obtain ⟨q6, e7, h⟩ := h
    obtain ⟨k8, h⟩ := h
    obtain ⟨b9, h⟩ := h
    refine ex_iald (pc := 19) d_Md_deps_19 e7 k8 b9 ?_
    refine ex_goto (tgt := 24) (pc := 20) d_Md_deps_20 (by decide) ?_
    exact ex_ret_i (pc := 24) d_Md_deps_24 rfl h
theorem sg_Md_promised_0 {h0 : Nat} {v1 : Int32} {v2 : Int32} {M : me_M} {Q : Option me_V → me_M → Prop} (h : mKd M h0 = 11 ∧ EX eL X_Md_known 0 [some (.inr (some h0)), some (.inl v1), some (.inl v2)] [] M (fun r3 M2 => ∃ x4, r3 = some (.inl x4) ∧ ((x4 = 0) → Q (some (.inl (-1 : Int32))) M2) ∧ ((¬ x4 = 0) → mKd M2 h0 = 11 ∧ ∃ q6, (mR M2 1651 h0 0) = some q6 ∧ mKd M2 q6 = 100 ∧ vp_in ((30 * v1) + v2) (mLn M2 q6) ∧ Q (some (.inl (mI M2 100 q6 ((30 * v1) + v2).toNatClampNeg))) M2))) : EX eL X_Md_promised 0 [some (.inr (some h0)), some (.inl v1), some (.inl v2)] [] M Q := by
  refine ex_aload_n (pc := 0) d_Md_promised_0 rfl ?_
  refine ex_iload_n (pc := 1) d_Md_promised_1 rfl ?_
  refine ex_iload_n (pc := 2) d_Md_promised_2 rfl ?_
  obtain ⟨k1, h⟩ := h
  refine ex_cVI (as := [_, _]) (st := []) (pc := 3) rfl rfl k1 rfl rfl rfl (Nat.le_of_ble_eq_true rfl) (EX.mono h fun r3 M2 h => ?_)
  obtain ⟨x4, rfl, h⟩ := h
  refine ⟨_, rfl, ?_⟩
  refine ex_if_eq (tgt := 23) (pc := 6) d_Md_promised_6 (by decide) (fun g => ?_) (fun g => ?_)
  · replace h := h.1 g
    refine ex_iconst (w := (-1 : Int32)) (pc := 23) d_Md_promised_23 (by decide) ?_
    exact ex_ret_i (pc := 24) d_Md_promised_24 rfl h
  · replace h := h.2 g
    refine ex_aload_n (pc := 9) d_Md_promised_9 rfl ?_
    obtain ⟨k5, h⟩ := h
    refine ex_getR (pc := 10) d_Md_promised_10 rfl rfl k5 ?_
    refine ex_bipush (w := 30) (pc := 13) d_Md_promised_13 (by decide) ?_
    refine ex_iload_n (pc := 15) d_Md_promised_15 rfl ?_
    refine ex_imul (pc := 16) d_Md_promised_16 ?_
    refine ex_iload_n (pc := 17) d_Md_promised_17 rfl ?_
    refine ex_iadd (pc := 18) d_Md_promised_18 ?_
    obtain ⟨q6, e7, h⟩ := h
    obtain ⟨k8, h⟩ := h
    obtain ⟨b9, h⟩ := h
    refine ex_iald (pc := 19) d_Md_promised_19 e7 k8 b9 ?_
    refine ex_goto (tgt := 24) (pc := 20) d_Md_promised_20 (by decide) ?_
    exact ex_ret_i (pc := 24) d_Md_promised_24 rfl h
theorem sg_Md_over_0 {h0 : Nat} {v1 : Int32} {v2 : Int32} {M : me_M} {Q : Option me_V → me_M → Prop} (h : mKd M h0 = 11 ∧ EX eL X_Md_known 0 [some (.inr (some h0)), some (.inl v1), some (.inl v2)] [] M (fun r3 M2 => ∃ x4, r3 = some (.inl x4) ∧ ((x4 = 0) → Q (some (.inl 0)) M2) ∧ ((¬ x4 = 0) → mKd M2 h0 = 11 ∧ ∃ q6, (mR M2 1646 h0 0) = some q6 ∧ mKd M2 q6 = 100 ∧ vp_in ((30 * v1) + v2) (mLn M2 q6) ∧ ((¬ (mI M2 100 q6 ((30 * v1) + v2).toNatClampNeg) = 4) → Q (some (.inl 0)) M2) ∧ (((mI M2 100 q6 ((30 * v1) + v2).toNatClampNeg) = 4) → Q (some (.inl 1)) M2)))) : EX eL X_Md_over 0 [some (.inr (some h0)), some (.inl v1), some (.inl v2)] [] M Q := by
  refine ex_aload_n (pc := 0) d_Md_over_0 rfl ?_
  refine ex_iload_n (pc := 1) d_Md_over_1 rfl ?_
  refine ex_iload_n (pc := 2) d_Md_over_2 rfl ?_
  obtain ⟨k1, h⟩ := h
  refine ex_cVI (as := [_, _]) (st := []) (pc := 3) rfl rfl k1 rfl rfl rfl (Nat.le_of_ble_eq_true rfl) (EX.mono h fun r3 M2 h => ?_)
  obtain ⟨x4, rfl, h⟩ := h
  refine ⟨_, rfl, ?_⟩
  refine ex_if_eq (tgt := 28) (pc := 6) d_Md_over_6 (by decide) (fun g => ?_) (fun g => ?_)
  · replace h := h.1 g
    refine ex_iconst (w := 0) (pc := 28) d_Md_over_28 (by decide) ?_
    exact ex_ret_z (pc := 29) d_Md_over_29 rfl (Or.inl rfl) h
  · replace h := h.2 g
    refine ex_aload_n (pc := 9) d_Md_over_9 rfl ?_
    obtain ⟨k5, h⟩ := h
    refine ex_getR (pc := 10) d_Md_over_10 rfl rfl k5 ?_
    refine ex_bipush (w := 30) (pc := 13) d_Md_over_13 (by decide) ?_
    refine ex_iload_n (pc := 15) d_Md_over_15 rfl ?_
    refine ex_imul (pc := 16) d_Md_over_16 ?_
    refine ex_iload_n (pc := 17) d_Md_over_17 rfl ?_
    refine ex_iadd (pc := 18) d_Md_over_18 ?_
    obtain ⟨q6, e7, h⟩ := h
    obtain ⟨k8, h⟩ := h
    obtain ⟨b9, h⟩ := h
    refine ex_iald (pc := 19) d_Md_over_19 e7 k8 b9 ?_
    refine ex_iconst (w := 4) (pc := 20) d_Md_over_20 (by decide) ?_
    refine ex_icmp_ne (tgt := 28) (pc := 21) d_Md_over_21 (by decide) (fun g => ?_) (fun g => ?_)
    · replace h := h.1 g
      refine ex_iconst (w := 0) (pc := 28) d_Md_over_28 (by decide) ?_
      exact ex_ret_z (pc := 29) d_Md_over_29 rfl (Or.inl rfl) h
    · replace h := h.2 g
      refine ex_iconst (w := 1) (pc := 24) d_Md_over_24 (by decide) ?_
      refine ex_goto (tgt := 29) (pc := 25) d_Md_over_25 (by decide) ?_
      exact ex_ret_z (pc := 29) d_Md_over_29 rfl (Or.inr rfl) h
theorem sg_Md_result_0 {h0 : Nat} {v1 : Int32} {v2 : Int32} {M : me_M} {Q : Option me_V → me_M → Prop} (h : mKd M h0 = 11 ∧ EX eL X_Md_over 0 [some (.inr (some h0)), some (.inl v1), some (.inl v2)] [] M (fun r3 M2 => ∃ x4, r3 = some (.inl x4) ∧ ((x4 = 0) → Q (some (.inl 0)) M2) ∧ ((¬ x4 = 0) → mKd M2 h0 = 11 ∧ ∃ q6, (mR M2 1654 h0 0) = some q6 ∧ mKd M2 q6 = 100 ∧ vp_in ((30 * v1) + v2) (mLn M2 q6) ∧ Q (some (.inl (mI M2 100 q6 ((30 * v1) + v2).toNatClampNeg))) M2))) : EX eL X_Md_result 0 [some (.inr (some h0)), some (.inl v1), some (.inl v2)] [] M Q := by
  refine ex_aload_n (pc := 0) d_Md_result_0 rfl ?_
  refine ex_iload_n (pc := 1) d_Md_result_1 rfl ?_
  refine ex_iload_n (pc := 2) d_Md_result_2 rfl ?_
  obtain ⟨k1, h⟩ := h
  refine ex_cVI (as := [_, _]) (st := []) (pc := 3) rfl rfl k1 rfl rfl rfl (Nat.le_of_ble_eq_true rfl) (EX.mono h fun r3 M2 h => ?_)
  obtain ⟨x4, rfl, h⟩ := h
  refine ⟨_, rfl, ?_⟩
  refine ex_if_eq (tgt := 23) (pc := 6) d_Md_result_6 (by decide) (fun g => ?_) (fun g => ?_)
  · replace h := h.1 g
    refine ex_iconst (w := 0) (pc := 23) d_Md_result_23 (by decide) ?_
    exact ex_ret_i (pc := 24) d_Md_result_24 rfl h
  · replace h := h.2 g
    refine ex_aload_n (pc := 9) d_Md_result_9 rfl ?_
    obtain ⟨k5, h⟩ := h
    refine ex_getR (pc := 10) d_Md_result_10 rfl rfl k5 ?_
    refine ex_bipush (w := 30) (pc := 13) d_Md_result_13 (by decide) ?_
    refine ex_iload_n (pc := 15) d_Md_result_15 rfl ?_
    refine ex_imul (pc := 16) d_Md_result_16 ?_
    refine ex_iload_n (pc := 17) d_Md_result_17 rfl ?_
    refine ex_iadd (pc := 18) d_Md_result_18 ?_
    obtain ⟨q6, e7, h⟩ := h
    obtain ⟨k8, h⟩ := h
    obtain ⟨b9, h⟩ := h
    refine ex_iald (pc := 19) d_Md_result_19 e7 k8 b9 ?_
    refine ex_goto (tgt := 24) (pc := 20) d_Md_result_20 (by decide) ?_
    exact ex_ret_i (pc := 24) d_Md_result_24 rfl h
theorem sg_Md_place_0 {h0 : Nat} {v1 : Int32} {v2 : Int32} {M : me_M} {Q : Option me_V → me_M → Prop} (h : mKd M h0 = 11 ∧ EX eL X_Md_over 0 [some (.inr (some h0)), some (.inl v1), some (.inl v2)] [] M (fun r3 M2 => ∃ x4, r3 = some (.inl x4) ∧ ((x4 = 0) → Q (some (.inl (-1 : Int32))) M2) ∧ ((¬ x4 = 0) → mKd M2 h0 = 11 ∧ ∃ q6, (mR M2 1653 h0 0) = some q6 ∧ mKd M2 q6 = 100 ∧ vp_in ((30 * v1) + v2) (mLn M2 q6) ∧ Q (some (.inl (mI M2 100 q6 ((30 * v1) + v2).toNatClampNeg))) M2))) : EX eL X_Md_place 0 [some (.inr (some h0)), some (.inl v1), some (.inl v2)] [] M Q := by
  refine ex_aload_n (pc := 0) d_Md_place_0 rfl ?_
  refine ex_iload_n (pc := 1) d_Md_place_1 rfl ?_
  refine ex_iload_n (pc := 2) d_Md_place_2 rfl ?_
  obtain ⟨k1, h⟩ := h
  refine ex_cVI (as := [_, _]) (st := []) (pc := 3) rfl rfl k1 rfl rfl rfl (Nat.le_of_ble_eq_true rfl) (EX.mono h fun r3 M2 h => ?_)
  obtain ⟨x4, rfl, h⟩ := h
  refine ⟨_, rfl, ?_⟩
  refine ex_if_eq (tgt := 23) (pc := 6) d_Md_place_6 (by decide) (fun g => ?_) (fun g => ?_)
  · replace h := h.1 g
    refine ex_iconst (w := (-1 : Int32)) (pc := 23) d_Md_place_23 (by decide) ?_
    exact ex_ret_i (pc := 24) d_Md_place_24 rfl h
  · replace h := h.2 g
    refine ex_aload_n (pc := 9) d_Md_place_9 rfl ?_
    obtain ⟨k5, h⟩ := h
    refine ex_getR (pc := 10) d_Md_place_10 rfl rfl k5 ?_
    refine ex_bipush (w := 30) (pc := 13) d_Md_place_13 (by decide) ?_
    refine ex_iload_n (pc := 15) d_Md_place_15 rfl ?_
    refine ex_imul (pc := 16) d_Md_place_16 ?_
    refine ex_iload_n (pc := 17) d_Md_place_17 rfl ?_
    refine ex_iadd (pc := 18) d_Md_place_18 ?_
    obtain ⟨q6, e7, h⟩ := h
    obtain ⟨k8, h⟩ := h
    obtain ⟨b9, h⟩ := h
    refine ex_iald (pc := 19) d_Md_place_19 e7 k8 b9 ?_
    refine ex_goto (tgt := 24) (pc := 20) d_Md_place_20 (by decide) ?_
    exact ex_ret_i (pc := 24) d_Md_place_24 rfl h
theorem sg_Md_value_0 {h0 : Nat} {v1 : Int32} {v2 : Int32} {M : me_M} {Q : Option me_V → me_M → Prop} (h : ((v1 < 0) → Q (some (.inl 0)) M) ∧ ((¬ v1 < 0) → mKd M h0 = 11 ∧ (((mI M 1640 h0 0) ≤ v1) → Q (some (.inl 0)) M) ∧ ((¬ (mI M 1640 h0 0) ≤ v1) → ((v2 < 0) → Q (some (.inl 0)) M) ∧ ((¬ v2 < 0) → ((4 ≤ v2) → Q (some (.inl 0)) M) ∧ ((¬ 4 ≤ v2) → ∃ q2, (mR M 1644 h0 0) = some q2 ∧ mKd M q2 = 100 ∧ vp_in ((4 * v1) + v2) (mLn M q2) ∧ Q (some (.inl (mI M 100 q2 ((4 * v1) + v2).toNatClampNeg))) M))))) : EX eL X_Md_value 0 [some (.inr (some h0)), some (.inl v1), some (.inl v2)] [] M Q := by
  refine ex_iload_n (pc := 0) d_Md_value_0 rfl ?_
  refine ex_if_lt (tgt := 34) (pc := 1) d_Md_value_1 (by decide) (fun g => ?_) (fun g => ?_)
  · replace h := h.1 g
    refine ex_iconst (w := 0) (pc := 34) d_Md_value_34 (by decide) ?_
    exact ex_ret_i (pc := 35) d_Md_value_35 rfl h
  · replace h := h.2 g
    refine ex_iload_n (pc := 4) d_Md_value_4 rfl ?_
    refine ex_aload_n (pc := 5) d_Md_value_5 rfl ?_
    obtain ⟨k1, h⟩ := h
    refine ex_getI (pc := 6) d_Md_value_6 rfl rfl (by decide) k1 ?_
    refine ex_icmp_ge (tgt := 34) (pc := 9) d_Md_value_9 (by decide) (fun g => ?_) (fun g => ?_)
    · replace h := h.1 g
      refine ex_iconst (w := 0) (pc := 34) d_Md_value_34 (by decide) ?_
      exact ex_ret_i (pc := 35) d_Md_value_35 rfl h
    · replace h := h.2 g
      refine ex_iload_n (pc := 12) d_Md_value_12 rfl ?_
      refine ex_if_lt (tgt := 34) (pc := 13) d_Md_value_13 (by decide) (fun g => ?_) (fun g => ?_)
      · replace h := h.1 g
        refine ex_iconst (w := 0) (pc := 34) d_Md_value_34 (by decide) ?_
        exact ex_ret_i (pc := 35) d_Md_value_35 rfl h
      · replace h := h.2 g
        refine ex_iload_n (pc := 16) d_Md_value_16 rfl ?_
        refine ex_iconst (w := 4) (pc := 17) d_Md_value_17 (by decide) ?_
        refine ex_icmp_ge (tgt := 34) (pc := 18) d_Md_value_18 (by decide) (fun g => ?_) (fun g => ?_)
        · replace h := h.1 g
          refine ex_iconst (w := 0) (pc := 34) d_Md_value_34 (by decide) ?_
          exact ex_ret_i (pc := 35) d_Md_value_35 rfl h
        · replace h := h.2 g
          refine ex_aload_n (pc := 21) d_Md_value_21 rfl ?_
          refine ex_getR (pc := 22) d_Md_value_22 rfl rfl k1 ?_
          refine ex_iconst (w := 4) (pc := 25) d_Md_value_25 (by decide) ?_
          refine ex_iload_n (pc := 26) d_Md_value_26 rfl ?_
          refine ex_imul (pc := 27) d_Md_value_27 ?_
          refine ex_iload_n (pc := 28) d_Md_value_28 rfl ?_
          refine ex_iadd (pc := 29) d_Md_value_29 ?_
          obtain ⟨q2, e3, h⟩ := h
          obtain ⟨k4, h⟩ := h
          obtain ⟨b5, h⟩ := h
          refine ex_iald (pc := 30) d_Md_value_30 e3 k4 b5 ?_
          refine ex_goto (tgt := 35) (pc := 31) d_Md_value_31 (by decide) ?_
          exact ex_ret_i (pc := 35) d_Md_value_35 rfl h
theorem sg_Law_cell_0 {bS L : Nat} {xs : Nat → Int32} {v1 : Int32} {M : me_M} {Q : Option me_V → me_M → Prop} (h : (((Int32.ofNat L) ≤ v1) → Q (some (.inl 0)) M) ∧ ((¬ (Int32.ofNat L) ≤ v1) → vp_in v1 L ∧ Q (some (.inl (xs v1.toNatClampNeg))) M)) : EX eL (X_Law_cell bS L xs) 0 [some (.inr (some bS)), some (.inl v1)] [] M Q := by
  refine ex_iload_n (pc := 0) d_Law_cell_0 rfl ?_
  refine ex_aload_n (pc := 1) d_Law_cell_1 rfl ?_
  refine ex_slen (X := (X_Law_cell bS L xs)) (pc := 2) d_Law_cell_2 rfl rfl ?_
  refine ex_icmp_ge (tgt := 12) (pc := 3) d_Law_cell_3 (by decide) (fun g => ?_) (fun g => ?_)
  · replace h := h.1 g
    refine ex_iconst (w := 0) (pc := 12) d_Law_cell_12 (by decide) ?_
    exact ex_ret_i (pc := 13) d_Law_cell_13 rfl h
  · replace h := h.2 g
    refine ex_aload_n (pc := 6) d_Law_cell_6 rfl ?_
    refine ex_iload_n (pc := 7) d_Law_cell_7 rfl ?_
    obtain ⟨b1, h⟩ := h
    refine ex_sald (X := (X_Law_cell bS L xs)) (pc := 8) d_Law_cell_8 rfl rfl b1 ?_
    refine ex_goto (tgt := 13) (pc := 9) d_Law_cell_9 (by decide) ?_
    exact ex_ret_i (pc := 13) d_Law_cell_13 rfl h
