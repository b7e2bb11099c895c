theorem sg_Rp_receive_0 {h0 : Nat} {a1 : Option Nat} {M : me_M} {Q : Option me_V → me_M → Prop} (h : mKd M h0 = 3 ∧ (((mI M 1135 h0 0) = 0) → ∃ q2, a1 = some q2 ∧ mKd M q2 = 10 ∧ ∃ q5, (mR M 1132 h0 0) = some q5 ∧ mKd M q5 = 104 ∧ vp_in (mI M 1579 q2 0) (mLn M q5) ∧ EX eL X_Ms_asksForVote 0 [some (.inr (some q2))] [] M (fun r10 M9 => ∃ x11, r10 = some (.inl x11) ∧ ((x11 = 0) → mKd M9 q2 = 10 ∧ ((((mI M9 1576 q2 0)).toInt < 0 ∨ 6 < ((mI M9 1576 q2 0)).toInt → Q none M9) ∧ (((mI M9 1576 q2 0)) = 0 → mKd M9 h0 = 3 ∧ EX eL X_Rp_onPreaccept 0 [some (.inr (some h0)), some (.inr a1), some (.inr (mR M 104 q5 (mI M 1579 q2 0).toNatClampNeg)), none] [] M9 (fun r15 M14 => r15 = none ∧ Q none M14)) ∧ (((mI M9 1576 q2 0)) = 1 → mKd M9 h0 = 3 ∧ EX eL X_Rp_onPreacceptOk 0 [some (.inr (some h0)), some (.inr a1), none, none, none, none] [] M9 (fun r18 M17 => r18 = none ∧ Q none M17)) ∧ (((mI M9 1576 q2 0)) = 2 → mKd M9 h0 = 3 ∧ EX eL X_Rp_onAccept 0 [some (.inr (some h0)), some (.inr a1), some (.inr (mR M 104 q5 (mI M 1579 q2 0).toNatClampNeg))] [] M9 (fun r21 M20 => r21 = none ∧ Q none M20)) ∧ (((mI M9 1576 q2 0)) = 3 → mKd M9 h0 = 3 ∧ EX eL X_Rp_onAcceptOk 0 [some (.inr (some h0)), some (.inr a1), none] [] M9 (fun r24 M23 => r24 = none ∧ Q none M23)) ∧ (((mI M9 1576 q2 0)) = 4 → mKd M9 h0 = 3 ∧ EX eL X_Rp_onCommit 0 [some (.inr (some h0)), some (.inr a1), some (.inr (mR M 104 q5 (mI M 1579 q2 0).toNatClampNeg))] [] M9 (fun r27 M26 => r27 = none ∧ Q none M26)) ∧ (((mI M9 1576 q2 0)) = 5 → mKd M9 h0 = 3 ∧ EX eL X_Rp_onPrepare 0 [some (.inr (some h0)), some (.inr a1), some (.inr (mR M 104 q5 (mI M 1579 q2 0).toNatClampNeg))] [] M9 (fun r30 M29 => r30 = none ∧ Q none M29)) ∧ (((mI M9 1576 q2 0)) = 6 → mKd M9 h0 = 3 ∧ EX eL X_Rp_onPromise 0 [some (.inr (some h0)), some (.inr a1), some (.inr (mR M 104 q5 (mI M 1579 q2 0).toNatClampNeg)), none] [] M9 (fun r33 M32 => r33 = none ∧ Q none M32)))) ∧ ((¬ x11 = 0) → ∃ q34, (mR M 104 q5 (mI M 1579 q2 0).toNatClampNeg) = some q34 ∧ mKd M9 q34 = 4 ∧ EX eL X_En_isSettled 0 [some (.inr (some q34))] [] M9 (fun r38 M37 => ∃ x39, r38 = some (.inl x39) ∧ ((x39 = 0) → mKd M37 q2 = 10 ∧ ((((mI M37 1576 q2 0)).toInt < 0 ∨ 6 < ((mI M37 1576 q2 0)).toInt → Q none M37) ∧ (((mI M37 1576 q2 0)) = 0 → mKd M37 h0 = 3 ∧ EX eL X_Rp_onPreaccept 0 [some (.inr (some h0)), some (.inr a1), some (.inr (mR M 104 q5 (mI M 1579 q2 0).toNatClampNeg)), none] [] M37 (fun r43 M42 => r43 = none ∧ Q none M42)) ∧ (((mI M37 1576 q2 0)) = 1 → mKd M37 h0 = 3 ∧ EX eL X_Rp_onPreacceptOk 0 [some (.inr (some h0)), some (.inr a1), none, none, none, none] [] M37 (fun r46 M45 => r46 = none ∧ Q none M45)) ∧ (((mI M37 1576 q2 0)) = 2 → mKd M37 h0 = 3 ∧ EX eL X_Rp_onAccept 0 [some (.inr (some h0)), some (.inr a1), some (.inr (mR M 104 q5 (mI M 1579 q2 0).toNatClampNeg))] [] M37 (fun r49 M48 => r49 = none ∧ Q none M48)) ∧ (((mI M37 1576 q2 0)) = 3 → mKd M37 h0 = 3 ∧ EX eL X_Rp_onAcceptOk 0 [some (.inr (some h0)), some (.inr a1), none] [] M37 (fun r52 M51 => r52 = none ∧ Q none M51)) ∧ (((mI M37 1576 q2 0)) = 4 → mKd M37 h0 = 3 ∧ EX eL X_Rp_onCommit 0 [some (.inr (some h0)), some (.inr a1), some (.inr (mR M 104 q5 (mI M 1579 q2 0).toNatClampNeg))] [] M37 (fun r55 M54 => r55 = none ∧ Q none M54)) ∧ (((mI M37 1576 q2 0)) = 5 → mKd M37 h0 = 3 ∧ EX eL X_Rp_onPrepare 0 [some (.inr (some h0)), some (.inr a1), some (.inr (mR M 104 q5 (mI M 1579 q2 0).toNatClampNeg))] [] M37 (fun r58 M57 => r58 = none ∧ Q none M57)) ∧ (((mI M37 1576 q2 0)) = 6 → mKd M37 h0 = 3 ∧ EX eL X_Rp_onPromise 0 [some (.inr (some h0)), some (.inr a1), some (.inr (mR M 104 q5 (mI M 1579 q2 0).toNatClampNeg)), none] [] M37 (fun r61 M60 => r61 = none ∧ Q none M60)))) ∧ ((¬ x39 = 0) → mKd M37 q34 = 4 ∧ mKd M37 h0 = 3 ∧ EX eL X_Rp_sendBack 0 [some (.inr (some h0)), some (.inr a1), some (.inl 4), some (.inr (mR M37 1193 q34 0)), some (.inr none)] [] M37 (fun r65 M64 => r65 = none ∧ Q none M64)))))) ∧ ((¬ (mI M 1135 h0 0) = 0) → Q none M)) : EX eL X_Rp_receive 0 [some (.inr (some h0)), some (.inr a1), none] [] M Q := by
  refine ex_aload_n (pc := 0) d_Rp_receive_0 rfl ?_
  obtain ⟨k1, h⟩ := h
  refine ex_getI (pc := 1) d_Rp_receive_1 rfl rfl (by decide) k1 ?_
  refine ex_if_eq (tgt := 8) (pc := 4) d_Rp_receive_4 (by decide) (fun g => ?_) (fun g => ?_)
  · replace h := h.1 g
    refine ex_aload_n (pc := 8) d_Rp_receive_8 rfl ?_
    refine ex_getR (pc := 9) d_Rp_receive_9 rfl rfl k1 ?_
    refine ex_aload_n (pc := 12) d_Rp_receive_12 rfl ?_
    obtain ⟨q2, e3, h⟩ := h
    obtain ⟨k4, h⟩ := h
    refine ex_getI (pc := 13) d_Rp_receive_13 e3 rfl (by decide) k4 ?_
    obtain ⟨q5, e6, h⟩ := h
    obtain ⟨k7, h⟩ := h
    obtain ⟨b8, h⟩ := h
    refine ex_aald (pc := 16) d_Rp_receive_16 e6 k7 (by decide) b8 ?_
    refine ex_astore_n (ls2 := [_, _, _]) (pc := 17) d_Rp_receive_17 (Nat.le_of_ble_eq_true rfl) rfl ?_
    refine ex_aload_n (pc := 18) d_Rp_receive_18 rfl ?_
    refine ex_cVI (as := []) (st := []) (pc := 19) e3 rfl k4 rfl rfl rfl (Nat.le_of_ble_eq_true rfl) (EX.mono h fun r10 M9 h => ?_)
    obtain ⟨x11, rfl, h⟩ := h
    refine ⟨_, rfl, ?_⟩
    refine ex_if_eq (tgt := 44) (pc := 22) d_Rp_receive_22 (by decide) (fun g => ?_) (fun g => ?_)
    · replace h := h.1 g
      refine ex_aload_n (pc := 44) d_Rp_receive_44 rfl ?_
      obtain ⟨k12, h⟩ := h
      refine ex_getI (pc := 45) d_Rp_receive_45 e3 rfl (by decide) k12 ?_
      refine ex_tab (lo := 0) (hi := 6) (pc := 48) d_Rp_receive_48 (fun g => ?_) (fun g1 g2 => ?_)
      · replace h := h.1 g
        refine ex_tabOut (tgt := 153) (pc := 48) d_Rp_receive_48 g (by decide) ?_
        exact ex_ret_v (pc := 153) d_Rp_receive_153 rfl h
      · rcases me_cases7 g1 g2 with g | g | g | g | g | g | g
        · replace h := h.2.1 g
          refine ex_tabAt (c := 0) (tgt := 92) (pc := 48) d_Rp_receive_48 g (by decide) (by decide) rfl (by decide) ?_
          refine ex_aload_n (pc := 92) d_Rp_receive_92 rfl ?_
          refine ex_aload_n (pc := 93) d_Rp_receive_93 rfl ?_
          refine ex_aload_n (pc := 94) d_Rp_receive_94 rfl ?_
          obtain ⟨k13, h⟩ := h
          refine ex_cVV (as := [_, _]) (st := []) (pc := 95) rfl rfl k13 rfl rfl rfl (Nat.le_of_ble_eq_true rfl) (EX.mono h fun r15 M14 h => ?_)
          obtain ⟨rfl, h⟩ := h
          refine ⟨rfl, ?_⟩
          refine ex_goto (tgt := 153) (pc := 98) d_Rp_receive_98 (by decide) ?_
          exact ex_ret_v (pc := 153) d_Rp_receive_153 rfl h
        · replace h := h.2.2.1 g
          refine ex_tabAt (c := 1) (tgt := 101) (pc := 48) d_Rp_receive_48 g (by decide) (by decide) rfl (by decide) ?_
          refine ex_aload_n (pc := 101) d_Rp_receive_101 rfl ?_
          refine ex_aload_n (pc := 102) d_Rp_receive_102 rfl ?_
          obtain ⟨k16, h⟩ := h
          refine ex_cVV (as := [_]) (st := []) (pc := 103) rfl rfl k16 rfl rfl rfl (Nat.le_of_ble_eq_true rfl) (EX.mono h fun r18 M17 h => ?_)
          obtain ⟨rfl, h⟩ := h
          refine ⟨rfl, ?_⟩
          refine ex_goto (tgt := 153) (pc := 106) d_Rp_receive_106 (by decide) ?_
          exact ex_ret_v (pc := 153) d_Rp_receive_153 rfl h
        · replace h := h.2.2.2.1 g
          refine ex_tabAt (c := 2) (tgt := 109) (pc := 48) d_Rp_receive_48 g (by decide) (by decide) rfl (by decide) ?_
          refine ex_aload_n (pc := 109) d_Rp_receive_109 rfl ?_
          refine ex_aload_n (pc := 110) d_Rp_receive_110 rfl ?_
          refine ex_aload_n (pc := 111) d_Rp_receive_111 rfl ?_
          obtain ⟨k19, h⟩ := h
          refine ex_cVV (as := [_, _]) (st := []) (pc := 112) rfl rfl k19 rfl rfl rfl (Nat.le_of_ble_eq_true rfl) (EX.mono h fun r21 M20 h => ?_)
          obtain ⟨rfl, h⟩ := h
          refine ⟨rfl, ?_⟩
          refine ex_goto (tgt := 153) (pc := 115) d_Rp_receive_115 (by decide) ?_
          exact ex_ret_v (pc := 153) d_Rp_receive_153 rfl h
        · replace h := h.2.2.2.2.1 g
          refine ex_tabAt (c := 3) (tgt := 118) (pc := 48) d_Rp_receive_48 g (by decide) (by decide) rfl (by decide) ?_
          refine ex_aload_n (pc := 118) d_Rp_receive_118 rfl ?_
          refine ex_aload_n (pc := 119) d_Rp_receive_119 rfl ?_
          obtain ⟨k22, h⟩ := h
          refine ex_cVV (as := [_]) (st := []) (pc := 120) rfl rfl k22 rfl rfl rfl (Nat.le_of_ble_eq_true rfl) (EX.mono h fun r24 M23 h => ?_)
          obtain ⟨rfl, h⟩ := h
          refine ⟨rfl, ?_⟩
          refine ex_goto (tgt := 153) (pc := 123) d_Rp_receive_123 (by decide) ?_
          exact ex_ret_v (pc := 153) d_Rp_receive_153 rfl h
        · replace h := h.2.2.2.2.2.1 g
          refine ex_tabAt (c := 4) (tgt := 126) (pc := 48) d_Rp_receive_48 g (by decide) (by decide) rfl (by decide) ?_
          refine ex_aload_n (pc := 126) d_Rp_receive_126 rfl ?_
          refine ex_aload_n (pc := 127) d_Rp_receive_127 rfl ?_
          refine ex_aload_n (pc := 128) d_Rp_receive_128 rfl ?_
          obtain ⟨k25, h⟩ := h
          refine ex_cVV (as := [_, _]) (st := []) (pc := 129) rfl rfl k25 rfl rfl rfl (Nat.le_of_ble_eq_true rfl) (EX.mono h fun r27 M26 h => ?_)
          obtain ⟨rfl, h⟩ := h
          refine ⟨rfl, ?_⟩
          refine ex_goto (tgt := 153) (pc := 132) d_Rp_receive_132 (by decide) ?_
          exact ex_ret_v (pc := 153) d_Rp_receive_153 rfl h
        · replace h := h.2.2.2.2.2.2.1 g
          refine ex_tabAt (c := 5) (tgt := 135) (pc := 48) d_Rp_receive_48 g (by decide) (by decide) rfl (by decide) ?_
          refine ex_aload_n (pc := 135) d_Rp_receive_135 rfl ?_
          refine ex_aload_n (pc := 136) d_Rp_receive_136 rfl ?_
          refine ex_aload_n (pc := 137) d_Rp_receive_137 rfl ?_
          obtain ⟨k28, h⟩ := h
          refine ex_cVV (as := [_, _]) (st := []) (pc := 138) rfl rfl k28 rfl rfl rfl (Nat.le_of_ble_eq_true rfl) (EX.mono h fun r30 M29 h => ?_)
          obtain ⟨rfl, h⟩ := h
          refine ⟨rfl, ?_⟩
          refine ex_goto (tgt := 153) (pc := 141) d_Rp_receive_141 (by decide) ?_
          exact ex_ret_v (pc := 153) d_Rp_receive_153 rfl h
        · replace h := h.2.2.2.2.2.2.2 g
          refine ex_tabAt (c := 6) (tgt := 144) (pc := 48) d_Rp_receive_48 g (by decide) (by decide) rfl (by decide) ?_
          refine ex_aload_n (pc := 144) d_Rp_receive_144 rfl ?_
          refine ex_aload_n (pc := 145) d_Rp_receive_145 rfl ?_
          refine ex_aload_n (pc := 146) d_Rp_receive_146 rfl ?_
          obtain ⟨k31, h⟩ := h
          refine ex_cVV (as := [_, _]) (st := []) (pc := 147) rfl rfl k31 rfl rfl rfl (Nat.le_of_ble_eq_true rfl) (EX.mono h fun r33 M32 h => ?_)
          obtain ⟨rfl, h⟩ := h
          refine ⟨rfl, ?_⟩
          refine ex_goto (tgt := 153) (pc := 150) d_Rp_receive_150 (by decide) ?_
          exact ex_ret_v (pc := 153) d_Rp_receive_153 rfl h
    · replace h := h.2 g
      refine ex_aload_n (pc := 25) d_Rp_receive_25 rfl ?_
      obtain ⟨q34, e35, h⟩ := h
      obtain ⟨k36, h⟩ := h
      refine ex_cVI (as := []) (st := []) (pc := 26) e35 rfl k36 rfl rfl rfl (Nat.le_of_ble_eq_true rfl) (EX.mono h fun r38 M37 h => ?_)
      obtain ⟨x39, rfl, h⟩ := h
      refine ⟨_, rfl, ?_⟩
      refine ex_if_eq (tgt := 44) (pc := 29) d_Rp_receive_29 (by decide) (fun g => ?_) (fun g => ?_)
      · replace h := h.1 g
        refine ex_aload_n (pc := 44) d_Rp_receive_44 rfl ?_
        obtain ⟨k40, h⟩ := h
        refine ex_getI (pc := 45) d_Rp_receive_45 e3 rfl (by decide) k40 ?_
        refine ex_tab (lo := 0) (hi := 6) (pc := 48) d_Rp_receive_48 (fun g => ?_) (fun g1 g2 => ?_)
        · replace h := h.1 g
          refine ex_tabOut (tgt := 153) (pc := 48) d_Rp_receive_48 g (by decide) ?_
          exact ex_ret_v (pc := 153) d_Rp_receive_153 rfl h
        · rcases me_cases7 g1 g2 with g | g | g | g | g | g | g
          · replace h := h.2.1 g
            refine ex_tabAt (c := 0) (tgt := 92) (pc := 48) d_Rp_receive_48 g (by decide) (by decide) rfl (by decide) ?_
            refine ex_aload_n (pc := 92) d_Rp_receive_92 rfl ?_
            refine ex_aload_n (pc := 93) d_Rp_receive_93 rfl ?_
            refine ex_aload_n (pc := 94) d_Rp_receive_94 rfl ?_
            obtain ⟨k41, h⟩ := h
            refine ex_cVV (as := [_, _]) (st := []) (pc := 95) rfl rfl k41 rfl rfl rfl (Nat.le_of_ble_eq_true rfl) (EX.mono h fun r43 M42 h => ?_)
            obtain ⟨rfl, h⟩ := h
            refine ⟨rfl, ?_⟩
            refine ex_goto (tgt := 153) (pc := 98) d_Rp_receive_98 (by decide) ?_
            exact ex_ret_v (pc := 153) d_Rp_receive_153 rfl h
          · replace h := h.2.2.1 g
            refine ex_tabAt (c := 1) (tgt := 101) (pc := 48) d_Rp_receive_48 g (by decide) (by decide) rfl (by decide) ?_
            refine ex_aload_n (pc := 101) d_Rp_receive_101 rfl ?_
            refine ex_aload_n (pc := 102) d_Rp_receive_102 rfl ?_
            obtain ⟨k44, h⟩ := h
            refine ex_cVV (as := [_]) (st := []) (pc := 103) rfl rfl k44 rfl rfl rfl (Nat.le_of_ble_eq_true rfl) (EX.mono h fun r46 M45 h => ?_)
            obtain ⟨rfl, h⟩ := h
            refine ⟨rfl, ?_⟩
            refine ex_goto (tgt := 153) (pc := 106) d_Rp_receive_106 (by decide) ?_
            exact ex_ret_v (pc := 153) d_Rp_receive_153 rfl h
          · replace h := h.2.2.2.1 g
            refine ex_tabAt (c := 2) (tgt := 109) (pc := 48) d_Rp_receive_48 g (by decide) (by decide) rfl (by decide) ?_
            refine ex_aload_n (pc := 109) d_Rp_receive_109 rfl ?_
            refine ex_aload_n (pc := 110) d_Rp_receive_110 rfl ?_
            refine ex_aload_n (pc := 111) d_Rp_receive_111 rfl ?_
            obtain ⟨k47, h⟩ := h
            refine ex_cVV (as := [_, _]) (st := []) (pc := 112) rfl rfl k47 rfl rfl rfl (Nat.le_of_ble_eq_true rfl) (EX.mono h fun r49 M48 h => ?_)
            obtain ⟨rfl, h⟩ := h
            refine ⟨rfl, ?_⟩
            refine ex_goto (tgt := 153) (pc := 115) d_Rp_receive_115 (by decide) ?_
            exact ex_ret_v (pc := 153) d_Rp_receive_153 rfl h
          · replace h := h.2.2.2.2.1 g
            refine ex_tabAt (c := 3) (tgt := 118) (pc := 48) d_Rp_receive_48 g (by decide) (by decide) rfl (by decide) ?_
            refine ex_aload_n (pc := 118) d_Rp_receive_118 rfl ?_
            refine ex_aload_n (pc := 119) d_Rp_receive_119 rfl ?_
            obtain ⟨k50, h⟩ := h
            refine ex_cVV (as := [_]) (st := []) (pc := 120) rfl rfl k50 rfl rfl rfl (Nat.le_of_ble_eq_true rfl) (EX.mono h fun r52 M51 h => ?_)
            obtain ⟨rfl, h⟩ := h
            refine ⟨rfl, ?_⟩
            refine ex_goto (tgt := 153) (pc := 123) d_Rp_receive_123 (by decide) ?_
            exact ex_ret_v (pc := 153) d_Rp_receive_153 rfl h
          · replace h := h.2.2.2.2.2.1 g
            refine ex_tabAt (c := 4) (tgt := 126) (pc := 48) d_Rp_receive_48 g (by decide) (by decide) rfl (by decide) ?_
            refine ex_aload_n (pc := 126) d_Rp_receive_126 rfl ?_
            refine ex_aload_n (pc := 127) d_Rp_receive_127 rfl ?_
            refine ex_aload_n (pc := 128) d_Rp_receive_128 rfl ?_
            obtain ⟨k53, h⟩ := h
            refine ex_cVV (as := [_, _]) (st := []) (pc := 129) rfl rfl k53 rfl rfl rfl (Nat.le_of_ble_eq_true rfl) (EX.mono h fun r55 M54 h => ?_)
            obtain ⟨rfl, h⟩ := h
            refine ⟨rfl, ?_⟩
            refine ex_goto (tgt := 153) (pc := 132) d_Rp_receive_132 (by decide) ?_
            exact ex_ret_v (pc := 153) d_Rp_receive_153 rfl h
          · replace h := h.2.2.2.2.2.2.1 g
            refine ex_tabAt (c := 5) (tgt := 135) (pc := 48) d_Rp_receive_48 g (by decide) (by decide) rfl (by decide) ?_
            refine ex_aload_n (pc := 135) d_Rp_receive_135 rfl ?_
            refine ex_aload_n (pc := 136) d_Rp_receive_136 rfl ?_
            refine ex_aload_n (pc := 137) d_Rp_receive_137 rfl ?_
            obtain ⟨k56, h⟩ := h
            refine ex_cVV (as := [_, _]) (st := []) (pc := 138) rfl rfl k56 rfl rfl rfl (Nat.le_of_ble_eq_true rfl) (EX.mono h fun r58 M57 h => ?_)
            obtain ⟨rfl, h⟩ := h
            refine ⟨rfl, ?_⟩
            refine ex_goto (tgt := 153) (pc := 141) d_Rp_receive_141 (by decide) ?_
            exact ex_ret_v (pc := 153) d_Rp_receive_153 rfl h
          · replace h := h.2.2.2.2.2.2.2 g
            refine ex_tabAt (c := 6) (tgt := 144) (pc := 48) d_Rp_receive_48 g (by decide) (by decide) rfl (by decide) ?_
            refine ex_aload_n (pc := 144) d_Rp_receive_144 rfl ?_
            refine ex_aload_n (pc := 145) d_Rp_receive_145 rfl ?_
            refine ex_aload_n (pc := 146) d_Rp_receive_146 rfl ?_
            obtain ⟨k59, h⟩ := h
            refine ex_cVV (as := [_, _]) (st := []) (pc := 147) rfl rfl k59 rfl rfl rfl (Nat.le_of_ble_eq_true rfl) (EX.mono h fun r61 M60 h => ?_)
            obtain ⟨rfl, h⟩ := h
            refine ⟨rfl, ?_⟩
            refine ex_goto (tgt := 153) (pc := 150) d_Rp_receive_150 (by decide) ?_
            exact ex_ret_v (pc := 153) d_Rp_receive_153 rfl h
      · replace h := h.2 g
        refine ex_aload_n (pc := 32) d_Rp_receive_32 rfl ?_
        refine ex_aload_n (pc := 33) d_Rp_receive_33 rfl ?_
        refine ex_iconst (w := 4) (pc := 34) d_Rp_receive_34 (by decide) ?_
        refine ex_aload_n (pc := 35) d_Rp_receive_35 rfl ?_
        obtain ⟨k62, h⟩ := h
        refine ex_getR (pc := 36) d_Rp_receive_36 e35 rfl k62 ?_
        refine ex_null (pc := 39) d_Rp_receive_39 ?_
        obtain ⟨k63, h⟩ := h
        refine ex_cVV (as := [_, _, _, _]) (st := []) (pc := 40) rfl rfl k63 rfl rfl rfl (Nat.le_of_ble_eq_true rfl) (EX.mono h fun r65 M64 h => ?_)
        obtain ⟨rfl, h⟩ := h
        refine ⟨rfl, ?_⟩
        exact ex_ret_v (pc := 43) d_Rp_receive_43 rfl h
  · replace h := h.2 g
    exact ex_ret_v (pc := 7) d_Rp_receive_7 rfl h
theorem sg_LM_deliver_0 {h0 : Nat} {v1 : Int32} {M : me_M} {Q : Option me_V → me_M → Prop} (h : mKd M h0 = 1 ∧ ∃ q2, (mR M 1002 h0 0) = some q2 ∧ mKd M q2 = 2 ∧ EX eL X_Net_take 0 [some (.inr (some q2)), some (.inl v1), none, none] [] M (fun r6 M5 => ∃ a7, r6 = some (.inr a7) ∧ ((¬ a7 = none) → mKd M5 h0 = 1 ∧ ∃ q9, a7 = some q9 ∧ mKd M5 q9 = 10 ∧ ∃ q12, (mR M5 1003 h0 0) = some q12 ∧ mKd M5 q12 = 103 ∧ vp_in (mI M5 1578 q9 0) (mLn M5 q12) ∧ ∃ q16, (mR M5 103 q12 (mI M5 1578 q9 0).toNatClampNeg) = some q16 ∧ mKd M5 q16 = 3 ∧ EX eL X_Rp_receive 0 [some (.inr (some q16)), some (.inr a7), none] [] M5 (fun r20 M19 => r20 = none ∧ mKd M19 q9 = 10 ∧ Q (some (.inl (mI M19 1576 q9 0))) M19)) ∧ ((a7 = none) → Q (some (.inl (-1 : Int32))) M5))) : EX eL X_LM_deliver 0 [some (.inr (some h0)), some (.inl v1), none] [] M Q := by
  refine ex_aload_n (pc := 0) d_LM_deliver_0 rfl ?_
  obtain ⟨k1, h⟩ := h
  refine ex_getR (pc := 1) d_LM_deliver_1 rfl rfl k1 ?_
  refine ex_iload_n (pc := 4) d_LM_deliver_4 rfl ?_
  obtain ⟨q2, e3, h⟩ := h
  obtain ⟨k4, h⟩ := h
  refine ex_cVR (as := [_]) (st := []) (pc := 5) e3 rfl k4 rfl rfl rfl (Nat.le_of_ble_eq_true rfl) (EX.mono h fun r6 M5 h => ?_)
  obtain ⟨a7, rfl, h⟩ := h
  refine ⟨_, rfl, ?_⟩
  refine ex_astore_n (ls2 := [_, _, _]) (pc := 8) d_LM_deliver_8 (Nat.le_of_ble_eq_true rfl) rfl ?_
  refine ex_aload_n (pc := 9) d_LM_deliver_9 rfl ?_
  refine ex_ifnonnull (tgt := 15) (pc := 10) d_LM_deliver_10 (by decide) (fun g => ?_) (fun g => ?_)
  · replace h := h.1 g
    refine ex_aload_n (pc := 15) d_LM_deliver_15 rfl ?_
    obtain ⟨k8, h⟩ := h
    refine ex_getR (pc := 16) d_LM_deliver_16 rfl rfl k8 ?_
    refine ex_aload_n (pc := 19) d_LM_deliver_19 rfl ?_
    obtain ⟨q9, e10, h⟩ := h
    obtain ⟨k11, h⟩ := h
    refine ex_getI (pc := 20) d_LM_deliver_20 e10 rfl (by decide) k11 ?_
    obtain ⟨q12, e13, h⟩ := h
    obtain ⟨k14, h⟩ := h
    obtain ⟨b15, h⟩ := h
    refine ex_aald (pc := 23) d_LM_deliver_23 e13 k14 (by decide) b15 ?_
    refine ex_aload_n (pc := 24) d_LM_deliver_24 rfl ?_
    obtain ⟨q16, e17, h⟩ := h
    obtain ⟨k18, h⟩ := h
    refine ex_cVV (as := [_]) (st := []) (pc := 25) e17 rfl k18 rfl rfl rfl (Nat.le_of_ble_eq_true rfl) (EX.mono h fun r20 M19 h => ?_)
    obtain ⟨rfl, h⟩ := h
    refine ⟨rfl, ?_⟩
    refine ex_aload_n (pc := 28) d_LM_deliver_28 rfl ?_
    obtain ⟨k21, h⟩ := h
    refine ex_getI (pc := 29) d_LM_deliver_29 e10 rfl (by decide) k21 ?_
    exact ex_ret_i (pc := 32) d_LM_deliver_32 rfl h
  · replace h := h.2 g
    refine ex_iconst (w := (-1 : Int32)) (pc := 13) d_LM_deliver_13 (by decide) ?_
    exact ex_ret_i (pc := 14) d_LM_deliver_14 rfl h
theorem sg_LM_lose_0 {h0 : Nat} {v1 : Int32} {M : me_M} {Q : Option me_V → me_M → Prop} (h : mKd M h0 = 1 ∧ ∃ q2, (mR M 1002 h0 0) = some q2 ∧ mKd M q2 = 2 ∧ EX eL X_Net_take 0 [some (.inr (some q2)), some (.inl v1), none, none] [] M (fun r6 M5 => ∃ a7, r6 = some (.inr a7) ∧ ((a7 = none) → Q (some (.inl 0)) M5) ∧ ((¬ a7 = none) → Q (some (.inl 1)) M5))) : EX eL X_LM_lose 0 [some (.inr (some h0)), some (.inl v1)] [] M Q := by
  refine ex_aload_n (pc := 0) d_LM_lose_0 rfl ?_
  obtain ⟨k1, h⟩ := h
  refine ex_getR (pc := 1) d_LM_lose_1 rfl rfl k1 ?_
  refine ex_iload_n (pc := 4) d_LM_lose_4 rfl ?_
  obtain ⟨q2, e3, h⟩ := h
  obtain ⟨k4, h⟩ := h
  refine ex_cVR (as := [_]) (st := []) (pc := 5) e3 rfl k4 rfl rfl rfl (Nat.le_of_ble_eq_true rfl) (EX.mono h fun r6 M5 h => ?_)
  obtain ⟨a7, rfl, h⟩ := h
  refine ⟨_, rfl, ?_⟩
  refine ex_ifnull (tgt := 15) (pc := 8) d_LM_lose_8 (by decide) (fun g => ?_) (fun g => ?_)
  · replace h := h.1 g
    refine ex_iconst (w := 0) (pc := 15) d_LM_lose_15 (by decide) ?_
    exact ex_ret_z (pc := 16) d_LM_lose_16 rfl (Or.inl rfl) h
  · replace h := h.2 g
    refine ex_iconst (w := 1) (pc := 11) d_LM_lose_11 (by decide) ?_
    refine ex_goto (tgt := 16) (pc := 12) d_LM_lose_12 (by decide) ?_
    exact ex_ret_z (pc := 16) d_LM_lose_16 rfl (Or.inr rfl) h
theorem sg_LM_crash_0 {h0 : Nat} {v1 : Int32} {M : me_M} {Q : Option me_V → me_M → Prop} (h : mKd M h0 = 1 ∧ EX eL X_LM_workingReplica 0 [some (.inr (some h0)), some (.inl v1)] [] M (fun r3 M2 => ∃ a4, r3 = some (.inr a4) ∧ ((a4 = none) → Q (some (.inl 0)) M2) ∧ ((¬ a4 = none) → mKd M2 h0 = 1 ∧ (((mI M2 1004 h0 0) < (mI M2 1001 h0 0)) → ∃ q6, a4 = some q6 ∧ mKd M2 q6 = 3 ∧ ∀ M9, M9 = mSetI M2 1135 q6 0 1 → ∀ M10, M10 = mSetI M9 1004 h0 0 ((mI M9 1004 h0 0) + 1) → Q (some (.inl 1)) M10) ∧ ((¬ (mI M2 1004 h0 0) < (mI M2 1001 h0 0)) → Q (some (.inl 0)) M2)))) : EX eL X_LM_crash 0 [some (.inr (some h0)), some (.inl v1), none] [] M Q := by
  refine ex_aload_n (pc := 0) d_LM_crash_0 rfl ?_
  refine ex_iload_n (pc := 1) d_LM_crash_1 rfl ?_
  obtain ⟨k1, h⟩ := h
  refine ex_cVR (as := [_]) (st := []) (pc := 2) rfl rfl k1 rfl rfl rfl (Nat.le_of_ble_eq_true rfl) (EX.mono h fun r3 M2 h => ?_)
  obtain ⟨a4, rfl, h⟩ := h
  refine ⟨_, rfl, ?_⟩
  refine ex_astore_n (ls2 := [_, _, _]) (pc := 5) d_LM_crash_5 (Nat.le_of_ble_eq_true rfl) rfl ?_
  refine ex_aload_n (pc := 6) d_LM_crash_6 rfl ?_
  refine ex_ifnull (tgt := 21) (pc := 7) d_LM_crash_7 (by decide) (fun g => ?_) (fun g => ?_)
  · replace h := h.1 g
    refine ex_iconst (w := 0) (pc := 21) d_LM_crash_21 (by decide) ?_
    exact ex_ret_z (pc := 22) d_LM_crash_22 rfl (Or.inl rfl) h
  · replace h := h.2 g
    refine ex_aload_n (pc := 10) d_LM_crash_10 rfl ?_
    obtain ⟨k5, h⟩ := h
    refine ex_getI (pc := 11) d_LM_crash_11 rfl rfl (by decide) k5 ?_
    refine ex_aload_n (pc := 14) d_LM_crash_14 rfl ?_
    refine ex_getI (pc := 15) d_LM_crash_15 rfl rfl (by decide) k5 ?_
    refine ex_icmp_lt (tgt := 23) (pc := 18) d_LM_crash_18 (by decide) (fun g => ?_) (fun g => ?_)
    · replace h := h.1 g
      refine ex_aload_n (pc := 23) d_LM_crash_23 rfl ?_
      refine ex_iconst (w := 1) (pc := 24) d_LM_crash_24 (by decide) ?_
      obtain ⟨q6, e7, h⟩ := h
      obtain ⟨k8, h⟩ := h
      refine ex_putZ (pc := 25) d_LM_crash_25 e7 rfl k8 (Or.inr rfl) ?_
      replace h := h _ rfl
      refine ex_aload_n (pc := 28) d_LM_crash_28 rfl ?_
      refine ex_dup (pc := 29) d_LM_crash_29 ?_
      refine ex_getI (pc := 30) d_LM_crash_30 rfl rfl (by decide) k5 ?_
      refine ex_iconst (w := 1) (pc := 33) d_LM_crash_33 (by decide) ?_
      refine ex_iadd (pc := 34) d_LM_crash_34 ?_
      refine ex_putI (pc := 35) d_LM_crash_35 rfl rfl k5 ?_
      replace h := h _ rfl
      refine ex_iconst (w := 1) (pc := 38) d_LM_crash_38 (by decide) ?_
      exact ex_ret_z (pc := 39) d_LM_crash_39 rfl (Or.inr rfl) h
    · replace h := h.2 g
      refine ex_iconst (w := 0) (pc := 21) d_LM_crash_21 (by decide) ?_
      exact ex_ret_z (pc := 22) d_LM_crash_22 rfl (Or.inl rfl) h
theorem sg_Sto_contains_0 {v0 : Int32} {v1 : Int32} {M : me_M} {Q : Option me_V → me_M → Prop} (h : ((((v0 >>> (v1 &&& 31)) &&& 1) = 0) → Q (some (.inl 0)) M) ∧ ((¬ ((v0 >>> (v1 &&& 31)) &&& 1) = 0) → Q (some (.inl 1)) M)) : EX eL X_Sto_contains 0 [some (.inl v0), some (.inl v1)] [] M Q := by
  refine ex_iload_n (pc := 0) d_Sto_contains_0 rfl ?_
  refine ex_iload_n (pc := 1) d_Sto_contains_1 rfl ?_
  refine ex_ishr (pc := 2) d_Sto_contains_2 ?_
  refine ex_iconst (w := 1) (pc := 3) d_Sto_contains_3 (by decide) ?_
  refine ex_iand (pc := 4) d_Sto_contains_4 ?_
  refine ex_if_eq (tgt := 12) (pc := 5) d_Sto_contains_5 (by decide) (fun g => ?_) (fun g => ?_)
  · replace h := h.1 g
    refine ex_iconst (w := 0) (pc := 12) d_Sto_contains_12 (by decide) ?_
    exact ex_ret_z (pc := 13) d_Sto_contains_13 rfl (Or.inl rfl) h
  · replace h := h.2 g
    refine ex_iconst (w := 1) (pc := 8) d_Sto_contains_8 (by decide) ?_
    refine ex_goto (tgt := 13) (pc := 9) d_Sto_contains_9 (by decide) ?_
    exact ex_ret_z (pc := 13) d_Sto_contains_13 rfl (Or.inr rfl) h
theorem sg_Sto_findReach_0 {h0 : Nat} {a1 : Option Nat} {M : me_M} {Q : Option me_V → me_M → Prop} (h : EX eL X_Sto_findReach 2 [some (.inr (some h0)), some (.inr a1), some (.inl 0), none] [] M Q) : EX eL X_Sto_findReach 0 [some (.inr (some h0)), some (.inr a1), none, none] [] M Q := by
  refine ex_iconst (w := 0) (pc := 0) d_Sto_findReach_0 (by decide) ?_
  refine ex_istore_n (ls2 := [_, _, _, _]) (pc := 1) d_Sto_findReach_1 (Nat.le_of_ble_eq_true rfl) rfl ?_
  exact h
theorem sg_Sto_findReach_2 {h0 : Nat} {a1 : Option Nat} {v2 : Int32} {M : me_M} {Q : Option me_V → me_M → Prop} (h : ∃ q1, a1 = some q1 ∧ mKd M q1 = 104 ∧ (((Int32.ofNat (mLn M q1)) ≤ v2) → EX eL X_Sto_findReach 45 [some (.inr (some h0)), some (.inr a1), some (.inl 0), none] [] M Q) ∧ ((¬ (Int32.ofNat (mLn M q1)) ≤ v2) → mKd M h0 = 5 ∧ vp_in v2 (mLn M q1) ∧ ∃ q6, (mR M 104 q1 v2.toNatClampNeg) = some q6 ∧ mKd M q6 = 4 ∧ ((¬ (mI M 1192 q6 0) = 3) → ∃ q9, (mR M 1257 h0 0) = some q9 ∧ mKd M q9 = 100 ∧ vp_in v2 (mLn M q9) ∧ ∀ M13, M13 = mSetI M 100 q9 v2.toNatClampNeg 0 → ∀ x14, x14 = v2 + Int32.ofInt 1 → EX eL X_Sto_findReach 2 [some (.inr (some h0)), some (.inr a1), some (.inl x14), none] [] M13 Q) ∧ (((mI M 1192 q6 0) = 3) → vp_in v2 (mLn M q1) ∧ ∃ q16, (mR M 1193 q6 0) = some q16 ∧ mKd M q16 = 8 ∧ ∃ q19, (mR M 1257 h0 0) = some q19 ∧ mKd M q19 = 100 ∧ vp_in v2 (mLn M q19) ∧ ∀ M23, M23 = mSetI M 100 q19 v2.toNatClampNeg (mI M 1450 q16 0) → ∀ x24, x24 = v2 + Int32.ofInt 1 → EX eL X_Sto_findReach 2 [some (.inr (some h0)), some (.inr a1), some (.inl x24), none] [] M23 Q))) : EX eL X_Sto_findReach 2 [some (.inr (some h0)), some (.inr a1), some (.inl v2), none] [] M Q := by
  refine ex_iload_n (pc := 2) d_Sto_findReach_2 rfl ?_
  refine ex_aload_n (pc := 3) d_Sto_findReach_3 rfl ?_
  obtain ⟨q1, e2, h⟩ := h
  obtain ⟨k3, h⟩ := h
  refine ex_alen (pc := 4) d_Sto_findReach_4 e2 (me_100 k3 (by decide)) ?_
  refine ex_icmp_ge (tgt := 43) (pc := 5) d_Sto_findReach_5 (by decide) (fun g => ?_) (fun g => ?_)
  · replace h := h.1 g
    refine ex_iconst (w := 0) (pc := 43) d_Sto_findReach_43 (by decide) ?_
    refine ex_istore_n (ls2 := [_, _, _, _]) (pc := 44) d_Sto_findReach_44 (Nat.le_of_ble_eq_true rfl) rfl ?_
    exact h
  · replace h := h.2 g
    refine ex_aload_n (pc := 8) d_Sto_findReach_8 rfl ?_
    obtain ⟨k4, h⟩ := h
    refine ex_getR (pc := 9) d_Sto_findReach_9 rfl rfl k4 ?_
    refine ex_iload_n (pc := 12) d_Sto_findReach_12 rfl ?_
    refine ex_aload_n (pc := 13) d_Sto_findReach_13 rfl ?_
    refine ex_iload_n (pc := 14) d_Sto_findReach_14 rfl ?_
    obtain ⟨b5, h⟩ := h
    refine ex_aald (pc := 15) d_Sto_findReach_15 e2 k3 (by decide) b5 ?_
    obtain ⟨q6, e7, h⟩ := h
    obtain ⟨k8, h⟩ := h
    refine ex_getI (pc := 16) d_Sto_findReach_16 e7 rfl (by decide) k8 ?_
    refine ex_iconst (w := 3) (pc := 19) d_Sto_findReach_19 (by decide) ?_
    refine ex_icmp_ne (tgt := 35) (pc := 20) d_Sto_findReach_20 (by decide) (fun g => ?_) (fun g => ?_)
    · replace h := h.1 g
      refine ex_iconst (w := 0) (pc := 35) d_Sto_findReach_35 (by decide) ?_
      obtain ⟨q9, e10, h⟩ := h
      obtain ⟨k11, h⟩ := h
      obtain ⟨b12, h⟩ := h
      refine ex_iast (pc := 36) d_Sto_findReach_36 e10 k11 b12 ?_
      replace h := h _ rfl
      refine ex_iinc (ls2 := [_, _, _, _]) (pc := 37) d_Sto_findReach_37 rfl rfl ?_
      replace h := h _ rfl
      refine ex_goto (tgt := 2) (pc := 40) d_Sto_findReach_40 (by decide) ?_
      exact h
    · replace h := h.2 g
      refine ex_aload_n (pc := 23) d_Sto_findReach_23 rfl ?_
      refine ex_iload_n (pc := 24) d_Sto_findReach_24 rfl ?_
      obtain ⟨b15, h⟩ := h
      refine ex_aald (pc := 25) d_Sto_findReach_25 e2 k3 (by decide) b15 ?_
      refine ex_getR (pc := 26) d_Sto_findReach_26 e7 rfl k8 ?_
      obtain ⟨q16, e17, h⟩ := h
      obtain ⟨k18, h⟩ := h
      refine ex_getI (pc := 29) d_Sto_findReach_29 e17 rfl (by decide) k18 ?_
      refine ex_goto (tgt := 36) (pc := 32) d_Sto_findReach_32 (by decide) ?_
      obtain ⟨q19, e20, h⟩ := h
      obtain ⟨k21, h⟩ := h
      obtain ⟨b22, h⟩ := h
      refine ex_iast (pc := 36) d_Sto_findReach_36 e20 k21 b22 ?_
      replace h := h _ rfl
      refine ex_iinc (ls2 := [_, _, _, _]) (pc := 37) d_Sto_findReach_37 rfl rfl ?_
      replace h := h _ rfl
      refine ex_goto (tgt := 2) (pc := 40) d_Sto_findReach_40 (by decide) ?_
      exact h
theorem sg_Sto_findReach_45 {h0 : Nat} {a1 : Option Nat} {v2 : Int32} {M : me_M} {Q : Option me_V → me_M → Prop} (h : ∃ q1, a1 = some q1 ∧ mKd M q1 = 104 ∧ (((Int32.ofNat (mLn M q1)) ≤ v2) → Q none M) ∧ ((¬ (Int32.ofNat (mLn M q1)) ≤ v2) → EX eL X_Sto_findReach 53 [some (.inr (some h0)), some (.inr a1), some (.inl v2), some (.inl 0)] [] M Q)) : EX eL X_Sto_findReach 45 [some (.inr (some h0)), some (.inr a1), some (.inl v2), none] [] M Q := by
  refine ex_iload_n (pc := 45) d_Sto_findReach_45 rfl ?_
  refine ex_aload_n (pc := 46) d_Sto_findReach_46 rfl ?_
  obtain ⟨q1, e2, h⟩ := h
  obtain ⟨k3, h⟩ := h
  refine ex_alen (pc := 47) d_Sto_findReach_47 e2 (me_100 k3 (by decide)) ?_
  refine ex_icmp_ge (tgt := 99) (pc := 48) d_Sto_findReach_48 (by decide) (fun g => ?_) (fun g => ?_)
  · replace h := h.1 g
    exact ex_ret_v (pc := 99) d_Sto_findReach_99 rfl h
  · replace h := h.2 g
    refine ex_iconst (w := 0) (pc := 51) d_Sto_findReach_51 (by decide) ?_
    refine ex_istore_n (ls2 := [_, _, _, _]) (pc := 52) d_Sto_findReach_52 (Nat.le_of_ble_eq_true rfl) rfl ?_
    exact h
theorem sg_Sto_findReach_53 {h0 : Nat} {a1 : Option Nat} {v2 : Int32} {v3 : Int32} {M : me_M} {Q : Option me_V → me_M → Prop} (h : ∃ q1, a1 = some q1 ∧ mKd M q1 = 104 ∧ (((Int32.ofNat (mLn M q1)) ≤ v3) → ∀ x4, x4 = v2 + Int32.ofInt 1 → EX eL X_Sto_findReach 45 [some (.inr (some h0)), some (.inr a1), some (.inl x4), none] [] M Q) ∧ ((¬ (Int32.ofNat (mLn M q1)) ≤ v3) → mKd M h0 = 5 ∧ ∃ q6, (mR M 1257 h0 0) = some q6 ∧ mKd M q6 = 100 ∧ vp_in v3 (mLn M q6) ∧ EX eL X_Sto_contains 0 [some (.inl (mI M 100 q6 v3.toNatClampNeg)), some (.inl v2)] [] M (fun r11 M10 => ∃ x12, r11 = some (.inl x12) ∧ ((x12 = 0) → ∀ x13, x13 = v3 + Int32.ofInt 1 → EX eL X_Sto_findReach 53 [some (.inr (some h0)), some (.inr a1), some (.inl v2), some (.inl x13)] [] M10 Q) ∧ ((¬ x12 = 0) → mKd M10 h0 = 5 ∧ ∃ q15, (mR M10 1257 h0 0) = some q15 ∧ mKd M10 q15 = 100 ∧ vp_in v3 (mLn M10 q15) ∧ vp_in v2 (mLn M10 q15) ∧ vp_in v3 (mLn M10 q15) ∧ ∀ M21, M21 = mSetI M10 100 q15 v3.toNatClampNeg ((mI M10 100 q15 v3.toNatClampNeg) ||| (mI M10 100 q15 v2.toNatClampNeg)) → ∀ x22, x22 = v3 + Int32.ofInt 1 → EX eL X_Sto_findReach 53 [some (.inr (some h0)), some (.inr a1), some (.inl v2), some (.inl x22)] [] M21 Q)))) : EX eL X_Sto_findReach 53 [some (.inr (some h0)), some (.inr a1), some (.inl v2), some (.inl v3)] [] M Q := by
  refine ex_iload_n (pc := 53) d_Sto_findReach_53 rfl ?_
  refine ex_aload_n (pc := 54) d_Sto_findReach_54 rfl ?_
  obtain ⟨q1, e2, h⟩ := h
  obtain ⟨k3, h⟩ := h
  refine ex_alen (pc := 55) d_Sto_findReach_55 e2 (me_100 k3 (by decide)) ?_
  refine ex_icmp_ge (tgt := 93) (pc := 56) d_Sto_findReach_56 (by decide) (fun g => ?_) (fun g => ?_)
  · replace h := h.1 g
    refine ex_iinc (ls2 := [_, _, _, _]) (pc := 93) d_Sto_findReach_93 rfl rfl ?_
    replace h := h _ rfl
    refine ex_goto (tgt := 45) (pc := 96) d_Sto_findReach_96 (by decide) ?_
    refine ex_drop (k := 3) (ls2 := [_, _, _, _]) rfl ?_
    exact h
  · replace h := h.2 g
    refine ex_aload_n (pc := 59) d_Sto_findReach_59 rfl ?_
    obtain ⟨k5, h⟩ := h
    refine ex_getR (pc := 60) d_Sto_findReach_60 rfl rfl k5 ?_
    refine ex_iload_n (pc := 63) d_Sto_findReach_63 rfl ?_
    obtain ⟨q6, e7, h⟩ := h
    obtain ⟨k8, h⟩ := h
    obtain ⟨b9, h⟩ := h
    refine ex_iald (pc := 64) d_Sto_findReach_64 e7 k8 b9 ?_
    refine ex_iload_n (pc := 65) d_Sto_findReach_65 rfl ?_
    refine ex_cSI (as := [_, _]) (st := []) (pc := 66) rfl rfl rfl rfl (Nat.le_of_ble_eq_true rfl) (EX.mono h fun r11 M10 h => ?_)
    obtain ⟨x12, rfl, h⟩ := h
    refine ⟨_, rfl, ?_⟩
    refine ex_if_eq (tgt := 87) (pc := 69) d_Sto_findReach_69 (by decide) (fun g => ?_) (fun g => ?_)
    · replace h := h.1 g
      refine ex_iinc (ls2 := [_, _, _, _]) (pc := 87) d_Sto_findReach_87 rfl rfl ?_
      replace h := h _ rfl
      refine ex_goto (tgt := 53) (pc := 90) d_Sto_findReach_90 (by decide) ?_
      exact h
    · replace h := h.2 g
      refine ex_aload_n (pc := 72) d_Sto_findReach_72 rfl ?_
      obtain ⟨k14, h⟩ := h
      refine ex_getR (pc := 73) d_Sto_findReach_73 rfl rfl k14 ?_
      refine ex_iload_n (pc := 76) d_Sto_findReach_76 rfl ?_
      refine ex_dup2 (pc := 77) d_Sto_findReach_77 ?_
      obtain ⟨q15, e16, h⟩ := h
      obtain ⟨k17, h⟩ := h
      obtain ⟨b18, h⟩ := h
      refine ex_iald (pc := 78) d_Sto_findReach_78 e16 k17 b18 ?_
      refine ex_aload_n (pc := 79) d_Sto_findReach_79 rfl ?_
      refine ex_getR (pc := 80) d_Sto_findReach_80 rfl rfl k14 ?_
      refine ex_iload_n (pc := 83) d_Sto_findReach_83 rfl ?_
      obtain ⟨b19, h⟩ := h
      refine ex_iald (pc := 84) d_Sto_findReach_84 e16 k17 b19 ?_
      refine ex_ior (pc := 85) d_Sto_findReach_85 ?_
      obtain ⟨b20, h⟩ := h
      refine ex_iast (pc := 86) d_Sto_findReach_86 e16 k17 b20 ?_
      replace h := h _ rfl
      refine ex_iinc (ls2 := [_, _, _, _]) (pc := 87) d_Sto_findReach_87 rfl rfl ?_
      replace h := h _ rfl
      refine ex_goto (tgt := 53) (pc := 90) d_Sto_findReach_90 (by decide) ?_
      exact h
theorem sg_Sto_readyComponent_0 {h0 : Nat} {v1 : Int32} {M : me_M} {Q : Option me_V → me_M → Prop} (h : mKd M h0 = 5 ∧ ∃ q2, (mR M 1257 h0 0) = some q2 ∧ mKd M q2 = 100 ∧ vp_in v1 (mLn M q2) ∧ ∀ x6, x6 = (((mI M 100 q2 v1.toNatClampNeg) ||| (1 <<< (v1 &&& 31))) &&& ((mI M 1258 h0 0) ^^^ (-1 : Int32))) → EX eL X_Sto_readyComponent 20 [some (.inr (some h0)), some (.inl v1), some (.inl x6), some (.inl 0), none] [] M Q) : EX eL X_Sto_readyComponent 0 [some (.inr (some h0)), some (.inl v1), none, none, none] [] M Q := by
  refine ex_aload_n (pc := 0) d_Sto_readyComponent_0 rfl ?_
  obtain ⟨k1, h⟩ := h
  refine ex_getR (pc := 1) d_Sto_readyComponent_1 rfl rfl k1 ?_
  refine ex_iload_n (pc := 4) d_Sto_readyComponent_4 rfl ?_
  obtain ⟨q2, e3, h⟩ := h
  obtain ⟨k4, h⟩ := h
  obtain ⟨b5, h⟩ := h
  refine ex_iald (pc := 5) d_Sto_readyComponent_5 e3 k4 b5 ?_
  refine ex_iconst (w := 1) (pc := 6) d_Sto_readyComponent_6 (by decide) ?_
  refine ex_iload_n (pc := 7) d_Sto_readyComponent_7 rfl ?_
  refine ex_ishl (pc := 8) d_Sto_readyComponent_8 ?_
  refine ex_ior (pc := 9) d_Sto_readyComponent_9 ?_
  refine ex_aload_n (pc := 10) d_Sto_readyComponent_10 rfl ?_
  refine ex_getI (pc := 11) d_Sto_readyComponent_11 rfl rfl (by decide) k1 ?_
  refine ex_iconst (w := (-1 : Int32)) (pc := 14) d_Sto_readyComponent_14 (by decide) ?_
  refine ex_ixor (pc := 15) d_Sto_readyComponent_15 ?_
  refine ex_iand (pc := 16) d_Sto_readyComponent_16 ?_
  refine ex_istore_n (ls2 := [_, _, _, _, _]) (pc := 17) d_Sto_readyComponent_17 (Nat.le_of_ble_eq_true rfl) rfl ?_
  replace h := h _ rfl
  refine ex_iconst (w := 0) (pc := 18) d_Sto_readyComponent_18 (by decide) ?_
  refine ex_istore_n (ls2 := [_, _, _, _, _]) (pc := 19) d_Sto_readyComponent_19 (Nat.le_of_ble_eq_true rfl) rfl ?_
  exact h
theorem sg_Sto_readyComponent_20 {h0 : Nat} {v1 : Int32} {v2 : Int32} {v3 : Int32} {M : me_M} {Q : Option me_V → me_M → Prop} (h : mKd M h0 = 5 ∧ ∃ q2, (mR M 1257 h0 0) = some q2 ∧ mKd M q2 = 100 ∧ (((Int32.ofNat (mLn M q2)) ≤ v3) → Q (some (.inl v2)) M) ∧ ((¬ (Int32.ofNat (mLn M q2)) ≤ v3) → ((v3 = v1) → EX eL X_Sto_contains 0 [some (.inl v2), some (.inl v3)] [] M (fun r6 M5 => ∃ x7, r6 = some (.inl x7) ∧ ((x7 = 0) → ∀ x8, x8 = v3 + Int32.ofInt 1 → EX eL X_Sto_readyComponent 20 [some (.inr (some h0)), some (.inl v1), some (.inl v2), some (.inl x8), none] [] M5 Q) ∧ ((¬ x7 = 0) → ∀ x9, x9 = v3 + Int32.ofInt 1 → EX eL X_Sto_readyComponent 20 [some (.inr (some h0)), some (.inl v1), some (.inl v2), some (.inl x9), none] [] M5 Q))) ∧ ((¬ v3 = v1) → vp_in v3 (mLn M q2) ∧ EX eL X_Sto_contains 0 [some (.inl (mI M 100 q2 v3.toNatClampNeg)), some (.inl v1)] [] M (fun r12 M11 => ∃ x13, r12 = some (.inl x13) ∧ ((x13 = 0) → EX eL X_Sto_contains 0 [some (.inl v2), some (.inl v3)] [] M11 (fun r15 M14 => ∃ x16, r15 = some (.inl x16) ∧ ((x16 = 0) → ∀ x17, x17 = v3 + Int32.ofInt 1 → EX eL X_Sto_readyComponent 20 [some (.inr (some h0)), some (.inl v1), some (.inl v2), some (.inl x17), none] [] M14 Q) ∧ ((¬ x16 = 0) → Q (some (.inl 0)) M14))) ∧ ((¬ x13 = 0) → EX eL X_Sto_contains 0 [some (.inl v2), some (.inl v3)] [] M11 (fun r19 M18 => ∃ x20, r19 = some (.inl x20) ∧ ((x20 = 0) → ∀ x21, x21 = v3 + Int32.ofInt 1 → EX eL X_Sto_readyComponent 20 [some (.inr (some h0)), some (.inl v1), some (.inl v2), some (.inl x21), none] [] M18 Q) ∧ ((¬ x20 = 0) → ∀ x22, x22 = v3 + Int32.ofInt 1 → EX eL X_Sto_readyComponent 20 [some (.inr (some h0)), some (.inl v1), some (.inl v2), some (.inl x22), none] [] M18 Q))))))) : EX eL X_Sto_readyComponent 20 [some (.inr (some h0)), some (.inl v1), some (.inl v2), some (.inl v3), none] [] M Q := by
  refine ex_iload_n (pc := 20) d_Sto_readyComponent_20 rfl ?_
  refine ex_aload_n (pc := 21) d_Sto_readyComponent_21 rfl ?_
  obtain ⟨k1, h⟩ := h
  refine ex_getR (pc := 22) d_Sto_readyComponent_22 rfl rfl k1 ?_
  obtain ⟨q2, e3, h⟩ := h
  obtain ⟨k4, h⟩ := h
  refine ex_alen (pc := 25) d_Sto_readyComponent_25 e3 (me_100 k4 (by decide)) ?_
  refine ex_icmp_ge (tgt := 75) (pc := 26) d_Sto_readyComponent_26 (by decide) (fun g => ?_) (fun g => ?_)
  · replace h := h.1 g
    refine ex_iload_n (pc := 75) d_Sto_readyComponent_75 rfl ?_
    exact ex_ret_i (pc := 76) d_Sto_readyComponent_76 rfl h
  · replace h := h.2 g
    refine ex_iload_n (pc := 29) d_Sto_readyComponent_29 rfl ?_
    refine ex_iload_n (pc := 30) d_Sto_readyComponent_30 rfl ?_
    refine ex_icmp_eq (tgt := 47) (pc := 31) d_Sto_readyComponent_31 (by decide) (fun g => ?_) (fun g => ?_)
    · replace h := h.1 g
      refine ex_iconst (w := 1) (pc := 47) d_Sto_readyComponent_47 (by decide) ?_
      refine ex_goto (tgt := 52) (pc := 48) d_Sto_readyComponent_48 (by decide) ?_
      refine ex_istore (ls2 := [_, _, _, _, _]) (pc := 52) d_Sto_readyComponent_52 (Nat.le_of_ble_eq_true rfl) rfl ?_
      refine ex_iload_n (pc := 54) d_Sto_readyComponent_54 rfl ?_
      refine ex_iload_n (pc := 55) d_Sto_readyComponent_55 rfl ?_
      refine ex_cSI (as := [_, _]) (st := []) (pc := 56) rfl rfl rfl rfl (Nat.le_of_ble_eq_true rfl) (EX.mono h fun r6 M5 h => ?_)
      obtain ⟨x7, rfl, h⟩ := h
      refine ⟨_, rfl, ?_⟩
      refine ex_if_eq (tgt := 69) (pc := 59) d_Sto_readyComponent_59 (by decide) (fun g => ?_) (fun g => ?_)
      · replace h := h.1 g
        refine ex_iinc (ls2 := [_, _, _, _, _]) (pc := 69) d_Sto_readyComponent_69 rfl rfl ?_
        replace h := h _ rfl
        refine ex_goto (tgt := 20) (pc := 72) d_Sto_readyComponent_72 (by decide) ?_
        refine ex_drop (k := 4) (ls2 := [_, _, _, _, _]) rfl ?_
        exact h
      · replace h := h.2 g
        refine ex_iload (pc := 62) d_Sto_readyComponent_62 rfl ?_
        refine ex_if_ne (tgt := 69) (pc := 64) d_Sto_readyComponent_64 (by decide) (fun _ => ?_) (fun g => absurd g (by decide))
        refine ex_iinc (ls2 := [_, _, _, _, _]) (pc := 69) d_Sto_readyComponent_69 rfl rfl ?_
        replace h := h _ rfl
        refine ex_goto (tgt := 20) (pc := 72) d_Sto_readyComponent_72 (by decide) ?_
        refine ex_drop (k := 4) (ls2 := [_, _, _, _, _]) rfl ?_
        exact h
    · replace h := h.2 g
      refine ex_aload_n (pc := 34) d_Sto_readyComponent_34 rfl ?_
      refine ex_getR (pc := 35) d_Sto_readyComponent_35 rfl rfl k1 ?_
      refine ex_iload_n (pc := 38) d_Sto_readyComponent_38 rfl ?_
      obtain ⟨b10, h⟩ := h
      refine ex_iald (pc := 39) d_Sto_readyComponent_39 e3 k4 b10 ?_
      refine ex_iload_n (pc := 40) d_Sto_readyComponent_40 rfl ?_
      refine ex_cSI (as := [_, _]) (st := []) (pc := 41) rfl rfl rfl rfl (Nat.le_of_ble_eq_true rfl) (EX.mono h fun r12 M11 h => ?_)
      obtain ⟨x13, rfl, h⟩ := h
      refine ⟨_, rfl, ?_⟩
      refine ex_if_eq (tgt := 51) (pc := 44) d_Sto_readyComponent_44 (by decide) (fun g => ?_) (fun g => ?_)
      · replace h := h.1 g
        refine ex_iconst (w := 0) (pc := 51) d_Sto_readyComponent_51 (by decide) ?_
        refine ex_istore (ls2 := [_, _, _, _, _]) (pc := 52) d_Sto_readyComponent_52 (Nat.le_of_ble_eq_true rfl) rfl ?_
        refine ex_iload_n (pc := 54) d_Sto_readyComponent_54 rfl ?_
        refine ex_iload_n (pc := 55) d_Sto_readyComponent_55 rfl ?_
        refine ex_cSI (as := [_, _]) (st := []) (pc := 56) rfl rfl rfl rfl (Nat.le_of_ble_eq_true rfl) (EX.mono h fun r15 M14 h => ?_)
        obtain ⟨x16, rfl, h⟩ := h
        refine ⟨_, rfl, ?_⟩
        refine ex_if_eq (tgt := 69) (pc := 59) d_Sto_readyComponent_59 (by decide) (fun g => ?_) (fun g => ?_)
        · replace h := h.1 g
          refine ex_iinc (ls2 := [_, _, _, _, _]) (pc := 69) d_Sto_readyComponent_69 rfl rfl ?_
          replace h := h _ rfl
          refine ex_goto (tgt := 20) (pc := 72) d_Sto_readyComponent_72 (by decide) ?_
          refine ex_drop (k := 4) (ls2 := [_, _, _, _, _]) rfl ?_
          exact h
        · replace h := h.2 g
          refine ex_iload (pc := 62) d_Sto_readyComponent_62 rfl ?_
          refine ex_if_ne (tgt := 69) (pc := 64) d_Sto_readyComponent_64 (by decide) (fun g => absurd g (by decide)) (fun _ => ?_)
          refine ex_iconst (w := 0) (pc := 67) d_Sto_readyComponent_67 (by decide) ?_
          exact ex_ret_i (pc := 68) d_Sto_readyComponent_68 rfl h
      · replace h := h.2 g
        refine ex_iconst (w := 1) (pc := 47) d_Sto_readyComponent_47 (by decide) ?_
        refine ex_goto (tgt := 52) (pc := 48) d_Sto_readyComponent_48 (by decide) ?_
        refine ex_istore (ls2 := [_, _, _, _, _]) (pc := 52) d_Sto_readyComponent_52 (Nat.le_of_ble_eq_true rfl) rfl ?_
        refine ex_iload_n (pc := 54) d_Sto_readyComponent_54 rfl ?_
        refine ex_iload_n (pc := 55) d_Sto_readyComponent_55 rfl ?_
        refine ex_cSI (as := [_, _]) (st := []) (pc := 56) rfl rfl rfl rfl (Nat.le_of_ble_eq_true rfl) (EX.mono h fun r19 M18 h => ?_)
        obtain ⟨x20, rfl, h⟩ := h
        refine ⟨_, rfl, ?_⟩
        refine ex_if_eq (tgt := 69) (pc := 59) d_Sto_readyComponent_59 (by decide) (fun g => ?_) (fun g => ?_)
        · replace h := h.1 g
          refine ex_iinc (ls2 := [_, _, _, _, _]) (pc := 69) d_Sto_readyComponent_69 rfl rfl ?_
          replace h := h _ rfl
          refine ex_goto (tgt := 20) (pc := 72) d_Sto_readyComponent_72 (by decide) ?_
          refine ex_drop (k := 4) (ls2 := [_, _, _, _, _]) rfl ?_
          exact h
        · replace h := h.2 g
          refine ex_iload (pc := 62) d_Sto_readyComponent_62 rfl ?_
          refine ex_if_ne (tgt := 69) (pc := 64) d_Sto_readyComponent_64 (by decide) (fun _ => ?_) (fun g => absurd g (by decide))
          refine ex_iinc (ls2 := [_, _, _, _, _]) (pc := 69) d_Sto_readyComponent_69 rfl rfl ?_
          replace h := h _ rfl
          refine ex_goto (tgt := 20) (pc := 72) d_Sto_readyComponent_72 (by decide) ?_
          refine ex_drop (k := 4) (ls2 := [_, _, _, _, _]) rfl ?_
          exact h
theorem sg_Sto_leastReadyComponent_0 {h0 : Nat} {a1 : Option Nat} {M : me_M} {Q : Option me_V → me_M → Prop} (h : EX eL X_Sto_leastReadyComponent 2 [some (.inr (some h0)), some (.inr a1), some (.inl 0), none] [] M Q) : EX eL X_Sto_leastReadyComponent 0 [some (.inr (some h0)), some (.inr a1), none, none] [] M Q := by
  refine ex_iconst (w := 0) (pc := 0) d_Sto_leastReadyComponent_0 (by decide) ?_
  refine ex_istore_n (ls2 := [_, _, _, _]) (pc := 1) d_Sto_leastReadyComponent_1 (Nat.le_of_ble_eq_true rfl) rfl ?_
  exact h
theorem sg_Sto_leastReadyComponent_2 {h0 : Nat} {a1 : Option Nat} {v2 : Int32} {M : me_M} {Q : Option me_V → me_M → Prop} (h : ∃ q1, a1 = some q1 ∧ mKd M q1 = 104 ∧ (((Int32.ofNat (mLn M q1)) ≤ v2) → Q (some (.inl 0)) M) ∧ ((¬ (Int32.ofNat (mLn M q1)) ≤ v2) → vp_in v2 (mLn M q1) ∧ ∃ q5, (mR M 104 q1 v2.toNatClampNeg) = some q5 ∧ mKd M q5 = 4 ∧ ((¬ (mI M 1192 q5 0) = 3) → ∀ x8, x8 = v2 + Int32.ofInt 1 → EX eL X_Sto_leastReadyComponent 2 [some (.inr (some h0)), some (.inr a1), some (.inl x8), none] [] M Q) ∧ (((mI M 1192 q5 0) = 3) → mKd M h0 = 5 ∧ EX eL X_Sto_readyComponent 0 [some (.inr (some h0)), some (.inl v2), none, none, none] [] M (fun r11 M10 => ∃ x12, r11 = some (.inl x12) ∧ ((x12 = 0) → ∀ x13, x13 = v2 + Int32.ofInt 1 → EX eL X_Sto_leastReadyComponent 2 [some (.inr (some h0)), some (.inr a1), some (.inl x13), none] [] M10 Q) ∧ ((¬ x12 = 0) → Q (some (.inl x12)) M10))))) : EX eL X_Sto_leastReadyComponent 2 [some (.inr (some h0)), some (.inr a1), some (.inl v2), none] [] M Q := by
  refine ex_iload_n (pc := 2) d_Sto_leastReadyComponent_2 rfl ?_
  refine ex_aload_n (pc := 3) d_Sto_leastReadyComponent_3 rfl ?_
  obtain ⟨q1, e2, h⟩ := h
  obtain ⟨k3, h⟩ := h
  refine ex_alen (pc := 4) d_Sto_leastReadyComponent_4 e2 (me_100 k3 (by decide)) ?_
  refine ex_icmp_ge (tgt := 40) (pc := 5) d_Sto_leastReadyComponent_5 (by decide) (fun g => ?_) (fun g => ?_)
  · replace h := h.1 g
    refine ex_iconst (w := 0) (pc := 40) d_Sto_leastReadyComponent_40 (by decide) ?_
    exact ex_ret_i (pc := 41) d_Sto_leastReadyComponent_41 rfl h
  · replace h := h.2 g
    refine ex_aload_n (pc := 8) d_Sto_leastReadyComponent_8 rfl ?_
    refine ex_iload_n (pc := 9) d_Sto_leastReadyComponent_9 rfl ?_
    obtain ⟨b4, h⟩ := h
    refine ex_aald (pc := 10) d_Sto_leastReadyComponent_10 e2 k3 (by decide) b4 ?_
    obtain ⟨q5, e6, h⟩ := h
    obtain ⟨k7, h⟩ := h
    refine ex_getI (pc := 11) d_Sto_leastReadyComponent_11 e6 rfl (by decide) k7 ?_
    refine ex_iconst (w := 3) (pc := 14) d_Sto_leastReadyComponent_14 (by decide) ?_
    refine ex_icmp_ne (tgt := 26) (pc := 15) d_Sto_leastReadyComponent_15 (by decide) (fun g => ?_) (fun g => ?_)
    · replace h := h.1 g
      refine ex_iconst (w := 0) (pc := 26) d_Sto_leastReadyComponent_26 (by decide) ?_
      refine ex_istore_n (ls2 := [_, _, _, _]) (pc := 27) d_Sto_leastReadyComponent_27 (Nat.le_of_ble_eq_true rfl) rfl ?_
      refine ex_iload_n (pc := 28) d_Sto_leastReadyComponent_28 rfl ?_
      refine ex_if_eq (tgt := 34) (pc := 29) d_Sto_leastReadyComponent_29 (by decide) (fun _ => ?_) (fun g => absurd g (by decide))
      refine ex_iinc (ls2 := [_, _, _, _]) (pc := 34) d_Sto_leastReadyComponent_34 rfl rfl ?_
      replace h := h _ rfl
      refine ex_goto (tgt := 2) (pc := 37) d_Sto_leastReadyComponent_37 (by decide) ?_
      refine ex_drop (k := 3) (ls2 := [_, _, _, _]) rfl ?_
      exact h
    · replace h := h.2 g
      refine ex_aload_n (pc := 18) d_Sto_leastReadyComponent_18 rfl ?_
      refine ex_iload_n (pc := 19) d_Sto_leastReadyComponent_19 rfl ?_
      obtain ⟨k9, h⟩ := h
      refine ex_cVI (as := [_]) (st := []) (pc := 20) rfl rfl k9 rfl rfl rfl (Nat.le_of_ble_eq_true rfl) (EX.mono h fun r11 M10 h => ?_)
      obtain ⟨x12, rfl, h⟩ := h
      refine ⟨_, rfl, ?_⟩
      refine ex_goto (tgt := 27) (pc := 23) d_Sto_leastReadyComponent_23 (by decide) ?_
      refine ex_istore_n (ls2 := [_, _, _, _]) (pc := 27) d_Sto_leastReadyComponent_27 (Nat.le_of_ble_eq_true rfl) rfl ?_
      refine ex_iload_n (pc := 28) d_Sto_leastReadyComponent_28 rfl ?_
      refine ex_if_eq (tgt := 34) (pc := 29) d_Sto_leastReadyComponent_29 (by decide) (fun g => ?_) (fun g => ?_)
      · replace h := h.1 g
        refine ex_iinc (ls2 := [_, _, _, _]) (pc := 34) d_Sto_leastReadyComponent_34 rfl rfl ?_
        replace h := h _ rfl
        refine ex_goto (tgt := 2) (pc := 37) d_Sto_leastReadyComponent_37 (by decide) ?_
        refine ex_drop (k := 3) (ls2 := [_, _, _, _]) rfl ?_
        exact h
      · replace h := h.2 g
        refine ex_iload_n (pc := 32) d_Sto_leastReadyComponent_32 rfl ?_
        exact ex_ret_i (pc := 33) d_Sto_leastReadyComponent_33 rfl h
theorem sg_Sto_leastSeq_0 {h0 : Nat} {a1 : Option Nat} {v2 : Int32} {M : me_M} {Q : Option me_V → me_M → Prop} (h : EX eL X_Sto_leastSeq 8 [none, some (.inr a1), some (.inl v2), some (.inl 0), some (.inl 0), some (.inl 0)] [] M Q) : EX eL X_Sto_leastSeq 0 [some (.inr (some h0)), some (.inr a1), some (.inl v2), none, none, none] [] M Q := by
  refine ex_iconst (w := 0) (pc := 0) d_Sto_leastSeq_0 (by decide) ?_
  refine ex_istore_n (ls2 := [_, _, _, _, _, _]) (pc := 1) d_Sto_leastSeq_1 (Nat.le_of_ble_eq_true rfl) rfl ?_
  refine ex_iconst (w := 0) (pc := 2) d_Sto_leastSeq_2 (by decide) ?_
  refine ex_istore (ls2 := [_, _, _, _, _, _]) (pc := 3) d_Sto_leastSeq_3 (Nat.le_of_ble_eq_true rfl) rfl ?_
  refine ex_iconst (w := 0) (pc := 5) d_Sto_leastSeq_5 (by decide) ?_
  refine ex_istore (ls2 := [_, _, _, _, _, _]) (pc := 6) d_Sto_leastSeq_6 (Nat.le_of_ble_eq_true rfl) rfl ?_
  refine ex_drop (k := 0) (ls2 := [_, _, _, _, _, _]) rfl ?_
  exact h
theorem sg_Sto_leastSeq_8 {a1 : Option Nat} {v2 : Int32} {v3 : Int32} {v4 : Int32} {v5 : Int32} {M : me_M} {Q : Option me_V → me_M → Prop} (h : ∃ q1, a1 = some q1 ∧ mKd M q1 = 104 ∧ (((Int32.ofNat (mLn M q1)) ≤ v5) → Q (some (.inl v3)) M) ∧ ((¬ (Int32.ofNat (mLn M q1)) ≤ v5) → EX eL X_Sto_contains 0 [some (.inl v2), some (.inl v5)] [] M (fun r5 M4 => ∃ x6, r5 = some (.inl x6) ∧ ((x6 = 0) → ∀ x7, x7 = v5 + Int32.ofInt 1 → EX eL X_Sto_leastSeq 8 [none, some (.inr a1), some (.inl v2), some (.inl v3), some (.inl v4), some (.inl x7)] [] M4 Q) ∧ ((¬ x6 = 0) → ((v4 = 0) → ∀ x8, x8 = v5 + Int32.ofInt 1 → EX eL X_Sto_leastSeq 8 [none, some (.inr a1), some (.inl v2), some (.inl v5), some (.inl 1), some (.inl x8)] [] M4 Q) ∧ ((¬ v4 = 0) → mKd M4 q1 = 104 ∧ vp_in v5 (mLn M4 q1) ∧ ∃ q11, (mR M4 104 q1 v5.toNatClampNeg) = some q11 ∧ mKd M4 q11 = 4 ∧ ∃ q14, (mR M4 1193 q11 0) = some q14 ∧ mKd M4 q14 = 8 ∧ vp_in v3 (mLn M4 q1) ∧ ∃ q18, (mR M4 104 q1 v3.toNatClampNeg) = some q18 ∧ mKd M4 q18 = 4 ∧ ∃ q21, (mR M4 1193 q18 0) = some q21 ∧ mKd M4 q21 = 8 ∧ (((mI M4 1449 q21 0) ≤ (mI M4 1449 q14 0)) → ∀ x24, x24 = v5 + Int32.ofInt 1 → EX eL X_Sto_leastSeq 8 [none, some (.inr a1), some (.inl v2), some (.inl v3), some (.inl v4), some (.inl x24)] [] M4 Q) ∧ ((¬ (mI M4 1449 q21 0) ≤ (mI M4 1449 q14 0)) → ∀ x25, x25 = v5 + Int32.ofInt 1 → EX eL X_Sto_leastSeq 8 [none, some (.inr a1), some (.inl v2), some (.inl v5), some (.inl 1), some (.inl x25)] [] M4 Q)))))) : EX eL X_Sto_leastSeq 8 [none, some (.inr a1), some (.inl v2), some (.inl v3), some (.inl v4), some (.inl v5)] [] M Q := by
  refine ex_iload (pc := 8) d_Sto_leastSeq_8 rfl ?_
  refine ex_aload_n (pc := 10) d_Sto_leastSeq_10 rfl ?_
  obtain ⟨q1, e2, h⟩ := h
  obtain ⟨k3, h⟩ := h
  refine ex_alen (pc := 11) d_Sto_leastSeq_11 e2 (me_100 k3 (by decide)) ?_
  refine ex_icmp_ge (tgt := 63) (pc := 12) d_Sto_leastSeq_12 (by decide) (fun g => ?_) (fun g => ?_)
  · replace h := h.1 g
    refine ex_iload_n (pc := 63) d_Sto_leastSeq_63 rfl ?_
    exact ex_ret_i (pc := 64) d_Sto_leastSeq_64 rfl h
  · replace h := h.2 g
    refine ex_iload_n (pc := 15) d_Sto_leastSeq_15 rfl ?_
    refine ex_iload (pc := 16) d_Sto_leastSeq_16 rfl ?_
    refine ex_cSI (as := [_, _]) (st := []) (pc := 18) rfl rfl rfl rfl (Nat.le_of_ble_eq_true rfl) (EX.mono h fun r5 M4 h => ?_)
    obtain ⟨x6, rfl, h⟩ := h
    refine ⟨_, rfl, ?_⟩
    refine ex_if_eq (tgt := 57) (pc := 21) d_Sto_leastSeq_21 (by decide) (fun g => ?_) (fun g => ?_)
    · replace h := h.1 g
      refine ex_iinc (ls2 := [_, _, _, _, _, _]) (pc := 57) d_Sto_leastSeq_57 rfl rfl ?_
      replace h := h _ rfl
      refine ex_goto (tgt := 8) (pc := 60) d_Sto_leastSeq_60 (by decide) ?_
      exact h
    · replace h := h.2 g
      refine ex_iload (pc := 24) d_Sto_leastSeq_24 rfl ?_
      refine ex_if_eq (tgt := 51) (pc := 26) d_Sto_leastSeq_26 (by decide) (fun g => ?_) (fun g => ?_)
      · replace h := h.1 g
        refine ex_iload (pc := 51) d_Sto_leastSeq_51 rfl ?_
        refine ex_istore_n (ls2 := [_, _, _, _, _, _]) (pc := 53) d_Sto_leastSeq_53 (Nat.le_of_ble_eq_true rfl) rfl ?_
        refine ex_iconst (w := 1) (pc := 54) d_Sto_leastSeq_54 (by decide) ?_
        refine ex_istore (ls2 := [_, _, _, _, _, _]) (pc := 55) d_Sto_leastSeq_55 (Nat.le_of_ble_eq_true rfl) rfl ?_
        refine ex_iinc (ls2 := [_, _, _, _, _, _]) (pc := 57) d_Sto_leastSeq_57 rfl rfl ?_
        replace h := h _ rfl
        refine ex_goto (tgt := 8) (pc := 60) d_Sto_leastSeq_60 (by decide) ?_
        exact h
      · replace h := h.2 g
        refine ex_aload_n (pc := 29) d_Sto_leastSeq_29 rfl ?_
        refine ex_iload (pc := 30) d_Sto_leastSeq_30 rfl ?_
        obtain ⟨k9, h⟩ := h
        obtain ⟨b10, h⟩ := h
        refine ex_aald (pc := 32) d_Sto_leastSeq_32 e2 k9 (by decide) b10 ?_
        obtain ⟨q11, e12, h⟩ := h
        obtain ⟨k13, h⟩ := h
        refine ex_getR (pc := 33) d_Sto_leastSeq_33 e12 rfl k13 ?_
        obtain ⟨q14, e15, h⟩ := h
        obtain ⟨k16, h⟩ := h
        refine ex_getI (pc := 36) d_Sto_leastSeq_36 e15 rfl (by decide) k16 ?_
        refine ex_aload_n (pc := 39) d_Sto_leastSeq_39 rfl ?_
        refine ex_iload_n (pc := 40) d_Sto_leastSeq_40 rfl ?_
        obtain ⟨b17, h⟩ := h
        refine ex_aald (pc := 41) d_Sto_leastSeq_41 e2 k9 (by decide) b17 ?_
        obtain ⟨q18, e19, h⟩ := h
        obtain ⟨k20, h⟩ := h
        refine ex_getR (pc := 42) d_Sto_leastSeq_42 e19 rfl k20 ?_
        obtain ⟨q21, e22, h⟩ := h
        obtain ⟨k23, h⟩ := h
        refine ex_getI (pc := 45) d_Sto_leastSeq_45 e22 rfl (by decide) k23 ?_
        refine ex_icmp_ge (tgt := 57) (pc := 48) d_Sto_leastSeq_48 (by decide) (fun g => ?_) (fun g => ?_)
        · replace h := h.1 g
          refine ex_iinc (ls2 := [_, _, _, _, _, _]) (pc := 57) d_Sto_leastSeq_57 rfl rfl ?_
          replace h := h _ rfl
          refine ex_goto (tgt := 8) (pc := 60) d_Sto_leastSeq_60 (by decide) ?_
          exact h
        · replace h := h.2 g
          refine ex_iload (pc := 51) d_Sto_leastSeq_51 rfl ?_
          refine ex_istore_n (ls2 := [_, _, _, _, _, _]) (pc := 53) d_Sto_leastSeq_53 (Nat.le_of_ble_eq_true rfl) rfl ?_
          refine ex_iconst (w := 1) (pc := 54) d_Sto_leastSeq_54 (by decide) ?_
          refine ex_istore (ls2 := [_, _, _, _, _, _]) (pc := 55) d_Sto_leastSeq_55 (Nat.le_of_ble_eq_true rfl) rfl ?_
          refine ex_iinc (ls2 := [_, _, _, _, _, _]) (pc := 57) d_Sto_leastSeq_57 rfl rfl ?_
          replace h := h _ rfl
          refine ex_goto (tgt := 8) (pc := 60) d_Sto_leastSeq_60 (by decide) ?_
          exact h
theorem sg_Sto_runEntry_0 {h0 : Nat} {a1 : Option Nat} {M : me_M} {Q : Option me_V → me_M → Prop} (h : ∃ q1, a1 = some q1 ∧ mKd M q1 = 4 ∧ ∃ q4, (mR M 1193 q1 0) = some q4 ∧ mKd M q4 = 8 ∧ ∃ q7, (mR M 1448 q4 0) = some q7 ∧ mKd M q7 = 7 ∧ ((¬ (mI M 1384 q7 0) = 2) → mKd M h0 = 5 ∧ ∃ q11, (mR M 1256 h0 0) = some q11 ∧ mKd M q11 = 100 ∧ vp_in (mI M 1385 q7 0) (mLn M q11) ∧ ∀ M15, M15 = mSetI M 1196 q1 0 (mI M 100 q11 (mI M 1385 q7 0).toNatClampNeg) → ((¬ (mI M15 1384 q7 0) = 1) → ∀ M16, M16 = mSetI M15 1192 q1 0 4 → ∀ M17, M17 = mSetI M16 1197 q1 0 (mI M16 1259 h0 0) → ∀ M18, M18 = mSetI M17 1259 h0 0 ((mI M17 1259 h0 0) + 1) → Q none M18) ∧ (((mI M15 1384 q7 0) = 1) → ∃ q19, (mR M15 1256 h0 0) = some q19 ∧ mKd M15 q19 = 100 ∧ vp_in (mI M15 1385 q7 0) (mLn M15 q19) ∧ ∀ M23, M23 = mSetI M15 100 q19 (mI M15 1385 q7 0).toNatClampNeg (mI M15 1386 q7 0) → ∀ M24, M24 = mSetI M23 1192 q1 0 4 → ∀ M25, M25 = mSetI M24 1197 q1 0 (mI M24 1259 h0 0) → ∀ M26, M26 = mSetI M25 1259 h0 0 ((mI M25 1259 h0 0) + 1) → Q none M26)) ∧ (((mI M 1384 q7 0) = 2) → ∀ M27, M27 = mSetI M 1196 q1 0 0 → ((¬ (mI M27 1384 q7 0) = 1) → ∀ M28, M28 = mSetI M27 1192 q1 0 4 → mKd M28 h0 = 5 ∧ ∀ M30, M30 = mSetI M28 1197 q1 0 (mI M28 1259 h0 0) → ∀ M31, M31 = mSetI M30 1259 h0 0 ((mI M30 1259 h0 0) + 1) → Q none M31) ∧ (((mI M27 1384 q7 0) = 1) → mKd M27 h0 = 5 ∧ ∃ q33, (mR M27 1256 h0 0) = some q33 ∧ mKd M27 q33 = 100 ∧ vp_in (mI M27 1385 q7 0) (mLn M27 q33) ∧ ∀ M37, M37 = mSetI M27 100 q33 (mI M27 1385 q7 0).toNatClampNeg (mI M27 1386 q7 0) → ∀ M38, M38 = mSetI M37 1192 q1 0 4 → ∀ M39, M39 = mSetI M38 1197 q1 0 (mI M38 1259 h0 0) → ∀ M40, M40 = mSetI M39 1259 h0 0 ((mI M39 1259 h0 0) + 1) → Q none M40))) : EX eL X_Sto_runEntry 0 [some (.inr (some h0)), some (.inr a1), none] [] M Q := by
  refine ex_aload_n (pc := 0) d_Sto_runEntry_0 rfl ?_
  obtain ⟨q1, e2, h⟩ := h
  obtain ⟨k3, h⟩ := h
  refine ex_getR (pc := 1) d_Sto_runEntry_1 e2 rfl k3 ?_
  obtain ⟨q4, e5, h⟩ := h
  obtain ⟨k6, h⟩ := h
  refine ex_getR (pc := 4) d_Sto_runEntry_4 e5 rfl k6 ?_
  refine ex_astore_n (ls2 := [_, _, _]) (pc := 7) d_Sto_runEntry_7 (Nat.le_of_ble_eq_true rfl) rfl ?_
  refine ex_aload_n (pc := 8) d_Sto_runEntry_8 rfl ?_
  refine ex_aload_n (pc := 9) d_Sto_runEntry_9 rfl ?_
  obtain ⟨q7, e8, h⟩ := h
  obtain ⟨k9, h⟩ := h
  refine ex_getI (pc := 10) d_Sto_runEntry_10 e8 rfl (by decide) k9 ?_
  refine ex_iconst (w := 2) (pc := 13) d_Sto_runEntry_13 (by decide) ?_
  refine ex_icmp_ne (tgt := 21) (pc := 14) d_Sto_runEntry_14 (by decide) (fun g => ?_) (fun g => ?_)
  · replace h := h.1 g
    refine ex_aload_n (pc := 21) d_Sto_runEntry_21 rfl ?_
    obtain ⟨k10, h⟩ := h
    refine ex_getR (pc := 22) d_Sto_runEntry_22 rfl rfl k10 ?_
    refine ex_aload_n (pc := 25) d_Sto_runEntry_25 rfl ?_
    refine ex_getI (pc := 26) d_Sto_runEntry_26 e8 rfl (by decide) k9 ?_
    obtain ⟨q11, e12, h⟩ := h
    obtain ⟨k13, h⟩ := h
    obtain ⟨b14, h⟩ := h
    refine ex_iald (pc := 29) d_Sto_runEntry_29 e12 k13 b14 ?_
    refine ex_putI (pc := 30) d_Sto_runEntry_30 e2 rfl k3 ?_
    replace h := h _ rfl
    refine ex_aload_n (pc := 33) d_Sto_runEntry_33 rfl ?_
    refine ex_getI (pc := 34) d_Sto_runEntry_34 e8 rfl (by decide) k9 ?_
    refine ex_iconst (w := 1) (pc := 37) d_Sto_runEntry_37 (by decide) ?_
    refine ex_icmp_ne (tgt := 54) (pc := 38) d_Sto_runEntry_38 (by decide) (fun g => ?_) (fun g => ?_)
    · replace h := h.1 g
      refine ex_aload_n (pc := 54) d_Sto_runEntry_54 rfl ?_
      refine ex_iconst (w := 4) (pc := 55) d_Sto_runEntry_55 (by decide) ?_
      refine ex_putI (pc := 56) d_Sto_runEntry_56 e2 rfl k3 ?_
      replace h := h _ rfl
      refine ex_aload_n (pc := 59) d_Sto_runEntry_59 rfl ?_
      refine ex_aload_n (pc := 60) d_Sto_runEntry_60 rfl ?_
      refine ex_getI (pc := 61) d_Sto_runEntry_61 rfl rfl (by decide) k10 ?_
      refine ex_putI (pc := 64) d_Sto_runEntry_64 e2 rfl k3 ?_
      replace h := h _ rfl
      refine ex_aload_n (pc := 67) d_Sto_runEntry_67 rfl ?_
      refine ex_dup (pc := 68) d_Sto_runEntry_68 ?_
      refine ex_getI (pc := 69) d_Sto_runEntry_69 rfl rfl (by decide) k10 ?_
      refine ex_iconst (w := 1) (pc := 72) d_Sto_runEntry_72 (by decide) ?_
      refine ex_iadd (pc := 73) d_Sto_runEntry_73 ?_
      refine ex_putI (pc := 74) d_Sto_runEntry_74 rfl rfl k10 ?_
      replace h := h _ rfl
      exact ex_ret_v (pc := 77) d_Sto_runEntry_77 rfl h
    · replace h := h.2 g
      refine ex_aload_n (pc := 41) d_Sto_runEntry_41 rfl ?_
      refine ex_getR (pc := 42) d_Sto_runEntry_42 rfl rfl k10 ?_
      refine ex_aload_n (pc := 45) d_Sto_runEntry_45 rfl ?_
      refine ex_getI (pc := 46) d_Sto_runEntry_46 e8 rfl (by decide) k9 ?_
      refine ex_aload_n (pc := 49) d_Sto_runEntry_49 rfl ?_
      refine ex_getI (pc := 50) d_Sto_runEntry_50 e8 rfl (by decide) k9 ?_
      obtain ⟨q19, e20, h⟩ := h
      obtain ⟨k21, h⟩ := h
      obtain ⟨b22, h⟩ := h
      refine ex_iast (pc := 53) d_Sto_runEntry_53 e20 k21 b22 ?_
      replace h := h _ rfl
      refine ex_aload_n (pc := 54) d_Sto_runEntry_54 rfl ?_
      refine ex_iconst (w := 4) (pc := 55) d_Sto_runEntry_55 (by decide) ?_
      refine ex_putI (pc := 56) d_Sto_runEntry_56 e2 rfl k3 ?_
      replace h := h _ rfl
      refine ex_aload_n (pc := 59) d_Sto_runEntry_59 rfl ?_
      refine ex_aload_n (pc := 60) d_Sto_runEntry_60 rfl ?_
      refine ex_getI (pc := 61) d_Sto_runEntry_61 rfl rfl (by decide) k10 ?_
      refine ex_putI (pc := 64) d_Sto_runEntry_64 e2 rfl k3 ?_
      replace h := h _ rfl
      refine ex_aload_n (pc := 67) d_Sto_runEntry_67 rfl ?_
      refine ex_dup (pc := 68) d_Sto_runEntry_68 ?_
      refine ex_getI (pc := 69) d_Sto_runEntry_69 rfl rfl (by decide) k10 ?_
      refine ex_iconst (w := 1) (pc := 72) d_Sto_runEntry_72 (by decide) ?_
      refine ex_iadd (pc := 73) d_Sto_runEntry_73 ?_
      refine ex_putI (pc := 74) d_Sto_runEntry_74 rfl rfl k10 ?_
      replace h := h _ rfl
      exact ex_ret_v (pc := 77) d_Sto_runEntry_77 rfl h
  · replace h := h.2 g
    refine ex_iconst (w := 0) (pc := 17) d_Sto_runEntry_17 (by decide) ?_
    refine ex_goto (tgt := 30) (pc := 18) d_Sto_runEntry_18 (by decide) ?_
    refine ex_putI (pc := 30) d_Sto_runEntry_30 e2 rfl k3 ?_
    replace h := h _ rfl
    refine ex_aload_n (pc := 33) d_Sto_runEntry_33 rfl ?_
    refine ex_getI (pc := 34) d_Sto_runEntry_34 e8 rfl (by decide) k9 ?_
    refine ex_iconst (w := 1) (pc := 37) d_Sto_runEntry_37 (by decide) ?_
    refine ex_icmp_ne (tgt := 54) (pc := 38) d_Sto_runEntry_38 (by decide) (fun g => ?_) (fun g => ?_)
    · replace h := h.1 g
      refine ex_aload_n (pc := 54) d_Sto_runEntry_54 rfl ?_
      refine ex_iconst (w := 4) (pc := 55) d_Sto_runEntry_55 (by decide) ?_
      refine ex_putI (pc := 56) d_Sto_runEntry_56 e2 rfl k3 ?_
      replace h := h _ rfl
      refine ex_aload_n (pc := 59) d_Sto_runEntry_59 rfl ?_
      refine ex_aload_n (pc := 60) d_Sto_runEntry_60 rfl ?_
      obtain ⟨k29, h⟩ := h
      refine ex_getI (pc := 61) d_Sto_runEntry_61 rfl rfl (by decide) k29 ?_
      refine ex_putI (pc := 64) d_Sto_runEntry_64 e2 rfl k3 ?_
      replace h := h _ rfl
      refine ex_aload_n (pc := 67) d_Sto_runEntry_67 rfl ?_
      refine ex_dup (pc := 68) d_Sto_runEntry_68 ?_
      refine ex_getI (pc := 69) d_Sto_runEntry_69 rfl rfl (by decide) k29 ?_
      refine ex_iconst (w := 1) (pc := 72) d_Sto_runEntry_72 (by decide) ?_
      refine ex_iadd (pc := 73) d_Sto_runEntry_73 ?_
      refine ex_putI (pc := 74) d_Sto_runEntry_74 rfl rfl k29 ?_
      replace h := h _ rfl
      exact ex_ret_v (pc := 77) d_Sto_runEntry_77 rfl h
    · replace h := h.2 g
      refine ex_aload_n (pc := 41) d_Sto_runEntry_41 rfl ?_
      obtain ⟨k32, h⟩ := h
      refine ex_getR (pc := 42) d_Sto_runEntry_42 rfl rfl k32 ?_
      refine ex_aload_n (pc := 45) d_Sto_runEntry_45 rfl ?_
      refine ex_getI (pc := 46) d_Sto_runEntry_46 e8 rfl (by decide) k9 ?_
      refine ex_aload_n (pc := 49) d_Sto_runEntry_49 rfl ?_
      refine ex_getI (pc := 50) d_Sto_runEntry_50 e8 rfl (by decide) k9 ?_
      obtain ⟨q33, e34, h⟩ := h
      obtain ⟨k35, h⟩ := h
      obtain ⟨b36, h⟩ := h
      refine ex_iast (pc := 53) d_Sto_runEntry_53 e34 k35 b36 ?_
      replace h := h _ rfl
      refine ex_aload_n (pc := 54) d_Sto_runEntry_54 rfl ?_
      refine ex_iconst (w := 4) (pc := 55) d_Sto_runEntry_55 (by decide) ?_
      refine ex_putI (pc := 56) d_Sto_runEntry_56 e2 rfl k3 ?_
      replace h := h _ rfl
      refine ex_aload_n (pc := 59) d_Sto_runEntry_59 rfl ?_
      refine ex_aload_n (pc := 60) d_Sto_runEntry_60 rfl ?_
      refine ex_getI (pc := 61) d_Sto_runEntry_61 rfl rfl (by decide) k32 ?_
      refine ex_putI (pc := 64) d_Sto_runEntry_64 e2 rfl k3 ?_
      replace h := h _ rfl
      refine ex_aload_n (pc := 67) d_Sto_runEntry_67 rfl ?_
      refine ex_dup (pc := 68) d_Sto_runEntry_68 ?_
      refine ex_getI (pc := 69) d_Sto_runEntry_69 rfl rfl (by decide) k32 ?_
      refine ex_iconst (w := 1) (pc := 72) d_Sto_runEntry_72 (by decide) ?_
      refine ex_iadd (pc := 73) d_Sto_runEntry_73 ?_
      refine ex_putI (pc := 74) d_Sto_runEntry_74 rfl rfl k32 ?_
      replace h := h _ rfl
      exact ex_ret_v (pc := 77) d_Sto_runEntry_77 rfl h
theorem sg_Sto_runComponent_0 {h0 : Nat} {a1 : Option Nat} {v2 : Int32} {M : me_M} {Q : Option me_V → me_M → Prop} (h : EX eL X_Sto_runComponent 5 [some (.inr (some h0)), some (.inr a1), none, some (.inl v2), some (.inl 0), none] [] M Q) : EX eL X_Sto_runComponent 0 [some (.inr (some h0)), some (.inr a1), some (.inl v2), none, none, none] [] M Q := by
  refine ex_iload_n (pc := 0) d_Sto_runComponent_0 rfl ?_
  refine ex_istore_n (ls2 := [_, _, _, _, _, _]) (pc := 1) d_Sto_runComponent_1 (Nat.le_of_ble_eq_true rfl) rfl ?_
  refine ex_iconst (w := 0) (pc := 2) d_Sto_runComponent_2 (by decide) ?_
  refine ex_istore (ls2 := [_, _, _, _, _, _]) (pc := 3) d_Sto_runComponent_3 (Nat.le_of_ble_eq_true rfl) rfl ?_
  refine ex_drop (k := 2) (ls2 := [_, _, _, _, _, _]) rfl ?_
  exact h
theorem sg_Sto_runComponent_5 {h0 : Nat} {a1 : Option Nat} {v3 : Int32} {v4 : Int32} {M : me_M} {Q : Option me_V → me_M → Prop} (h : ∃ q1, a1 = some q1 ∧ mKd M q1 = 104 ∧ (((Int32.ofNat (mLn M q1)) ≤ v4) → Q none M) ∧ ((¬ (Int32.ofNat (mLn M q1)) ≤ v4) → ((v3 = 0) → Q none M) ∧ ((¬ v3 = 0) → mKd M h0 = 5 ∧ EX eL X_Sto_leastSeq 0 [some (.inr (some h0)), some (.inr a1), some (.inl v3), none, none, none] [] M (fun r6 M5 => ∃ x7, r6 = some (.inl x7) ∧ mKd M5 q1 = 104 ∧ vp_in x7 (mLn M5 q1) ∧ mKd M5 h0 = 5 ∧ EX eL X_Sto_runEntry 0 [some (.inr (some h0)), some (.inr (mR M5 104 q1 x7.toNatClampNeg)), none] [] M5 (fun r12 M11 => r12 = none ∧ mKd M11 h0 = 5 ∧ ∀ M14, M14 = mSetI M11 1258 h0 0 ((mI M11 1258 h0 0) ||| (1 <<< (x7 &&& 31))) → ∀ x15, x15 = (v3 &&& ((1 <<< (x7 &&& 31)) ^^^ (-1 : Int32))) → ∀ x16, x16 = v4 + Int32.ofInt 1 → EX eL X_Sto_runComponent 5 [some (.inr (some h0)), some (.inr a1), none, some (.inl x15), some (.inl x16), none] [] M14 Q))))) : EX eL X_Sto_runComponent 5 [some (.inr (some h0)), some (.inr a1), none, some (.inl v3), some (.inl v4), none] [] M Q := by
  refine ex_iload (pc := 5) d_Sto_runComponent_5 rfl ?_
  refine ex_aload_n (pc := 7) d_Sto_runComponent_7 rfl ?_
  obtain ⟨q1, e2, h⟩ := h
  obtain ⟨k3, h⟩ := h
  refine ex_alen (pc := 8) d_Sto_runComponent_8 e2 (me_100 k3 (by decide)) ?_
  refine ex_icmp_ge (tgt := 60) (pc := 9) d_Sto_runComponent_9 (by decide) (fun g => ?_) (fun g => ?_)
  · replace h := h.1 g
    exact ex_ret_v (pc := 60) d_Sto_runComponent_60 rfl h
  · replace h := h.2 g
    refine ex_iload_n (pc := 12) d_Sto_runComponent_12 rfl ?_
    refine ex_if_eq (tgt := 60) (pc := 13) d_Sto_runComponent_13 (by decide) (fun g => ?_) (fun g => ?_)
    · replace h := h.1 g
      exact ex_ret_v (pc := 60) d_Sto_runComponent_60 rfl h
    · replace h := h.2 g
      refine ex_aload_n (pc := 16) d_Sto_runComponent_16 rfl ?_
      refine ex_aload_n (pc := 17) d_Sto_runComponent_17 rfl ?_
      refine ex_iload_n (pc := 18) d_Sto_runComponent_18 rfl ?_
      obtain ⟨k4, h⟩ := h
      refine ex_cVI (as := [_, _]) (st := []) (pc := 19) rfl rfl k4 rfl rfl rfl (Nat.le_of_ble_eq_true rfl) (EX.mono h fun r6 M5 h => ?_)
      obtain ⟨x7, rfl, h⟩ := h
      refine ⟨_, rfl, ?_⟩
      refine ex_istore (ls2 := [_, _, _, _, _, _]) (pc := 22) d_Sto_runComponent_22 (Nat.le_of_ble_eq_true rfl) rfl ?_
      refine ex_aload_n (pc := 24) d_Sto_runComponent_24 rfl ?_
      refine ex_aload_n (pc := 25) d_Sto_runComponent_25 rfl ?_
      refine ex_iload (pc := 26) d_Sto_runComponent_26 rfl ?_
      obtain ⟨k8, h⟩ := h
      obtain ⟨b9, h⟩ := h
      refine ex_aald (pc := 28) d_Sto_runComponent_28 e2 k8 (by decide) b9 ?_
      obtain ⟨k10, h⟩ := h
      refine ex_cVV (as := [_]) (st := []) (pc := 29) rfl rfl k10 rfl rfl rfl (Nat.le_of_ble_eq_true rfl) (EX.mono h fun r12 M11 h => ?_)
      obtain ⟨rfl, h⟩ := h
      refine ⟨rfl, ?_⟩
      refine ex_aload_n (pc := 32) d_Sto_runComponent_32 rfl ?_
      refine ex_dup (pc := 33) d_Sto_runComponent_33 ?_
      obtain ⟨k13, h⟩ := h
      refine ex_getI (pc := 34) d_Sto_runComponent_34 rfl rfl (by decide) k13 ?_
      refine ex_iconst (w := 1) (pc := 37) d_Sto_runComponent_37 (by decide) ?_
      refine ex_iload (pc := 38) d_Sto_runComponent_38 rfl ?_
      refine ex_ishl (pc := 40) d_Sto_runComponent_40 ?_
      refine ex_ior (pc := 41) d_Sto_runComponent_41 ?_
      refine ex_putI (pc := 42) d_Sto_runComponent_42 rfl rfl k13 ?_
      replace h := h _ rfl
      refine ex_iload_n (pc := 45) d_Sto_runComponent_45 rfl ?_
      refine ex_iconst (w := 1) (pc := 46) d_Sto_runComponent_46 (by decide) ?_
      refine ex_iload (pc := 47) d_Sto_runComponent_47 rfl ?_
      refine ex_ishl (pc := 49) d_Sto_runComponent_49 ?_
      refine ex_iconst (w := (-1 : Int32)) (pc := 50) d_Sto_runComponent_50 (by decide) ?_
      refine ex_ixor (pc := 51) d_Sto_runComponent_51 ?_
      refine ex_iand (pc := 52) d_Sto_runComponent_52 ?_
      refine ex_istore_n (ls2 := [_, _, _, _, _, _]) (pc := 53) d_Sto_runComponent_53 (Nat.le_of_ble_eq_true rfl) rfl ?_
      replace h := h _ rfl
      refine ex_iinc (ls2 := [_, _, _, _, _, _]) (pc := 54) d_Sto_runComponent_54 rfl rfl ?_
      replace h := h _ rfl
      refine ex_goto (tgt := 5) (pc := 57) d_Sto_runComponent_57 (by decide) ?_
      refine ex_drop (k := 5) (ls2 := [_, _, _, _, _, _]) rfl ?_
      exact h
theorem sg_Sto_runReady_0 {h0 : Nat} {a1 : Option Nat} {M : me_M} {Q : Option me_V → me_M → Prop} (h : mKd M h0 = 5 ∧ ∀ x2, x2 = (mI M 1259 h0 0) → EX eL X_Sto_findReach 0 [some (.inr (some h0)), some (.inr a1), none, none] [] M (fun r4 M3 => r4 = none ∧ EX eL X_Sto_runReady 12 [some (.inr (some h0)), some (.inr a1), some (.inl x2), some (.inl 0), none] [] M3 Q)) : EX eL X_Sto_runReady 0 [some (.inr (some h0)), some (.inr a1), none, none, none] [] M Q := by
  refine ex_aload_n (pc := 0) d_Sto_runReady_0 rfl ?_
  obtain ⟨k1, h⟩ := h
  refine ex_getI (pc := 1) d_Sto_runReady_1 rfl rfl (by decide) k1 ?_
  refine ex_istore_n (ls2 := [_, _, _, _, _]) (pc := 4) d_Sto_runReady_4 (Nat.le_of_ble_eq_true rfl) rfl ?_
  replace h := h _ rfl
  refine ex_aload_n (pc := 5) d_Sto_runReady_5 rfl ?_
  refine ex_aload_n (pc := 6) d_Sto_runReady_6 rfl ?_
  refine ex_cVV (as := [_]) (st := []) (pc := 7) rfl rfl k1 rfl rfl rfl (Nat.le_of_ble_eq_true rfl) (EX.mono h fun r4 M3 h => ?_)
  obtain ⟨rfl, h⟩ := h
  refine ⟨rfl, ?_⟩
  refine ex_iconst (w := 0) (pc := 10) d_Sto_runReady_10 (by decide) ?_
  refine ex_istore_n (ls2 := [_, _, _, _, _]) (pc := 11) d_Sto_runReady_11 (Nat.le_of_ble_eq_true rfl) rfl ?_
  exact h
theorem sg_Sto_runReady_12 {h0 : Nat} {a1 : Option Nat} {v2 : Int32} {v3 : Int32} {M : me_M} {Q : Option me_V → me_M → Prop} (h : ∃ q1, a1 = some q1 ∧ mKd M q1 = 104 ∧ (((Int32.ofNat (mLn M q1)) ≤ v3) → mKd M h0 = 5 ∧ Q (some (.inl ((mI M 1259 h0 0) - v2))) M) ∧ ((¬ (Int32.ofNat (mLn M q1)) ≤ v3) → mKd M h0 = 5 ∧ EX eL X_Sto_leastReadyComponent 0 [some (.inr (some h0)), some (.inr a1), none, none] [] M (fun r7 M6 => ∃ x8, r7 = some (.inl x8) ∧ ((¬ x8 = 0) → mKd M6 h0 = 5 ∧ EX eL X_Sto_runComponent 0 [some (.inr (some h0)), some (.inr a1), some (.inl x8), none, none, none] [] M6 (fun r11 M10 => r11 = none ∧ ∀ x12, x12 = v3 + Int32.ofInt 1 → EX eL X_Sto_runReady 12 [some (.inr (some h0)), some (.inr a1), some (.inl v2), some (.inl x12), none] [] M10 Q)) ∧ ((x8 = 0) → mKd M6 h0 = 5 ∧ Q (some (.inl ((mI M6 1259 h0 0) - v2))) M6)))) : EX eL X_Sto_runReady 12 [some (.inr (some h0)), some (.inr a1), some (.inl v2), some (.inl v3), none] [] M Q := by
  refine ex_iload_n (pc := 12) d_Sto_runReady_12 rfl ?_
  refine ex_aload_n (pc := 13) d_Sto_runReady_13 rfl ?_
  obtain ⟨q1, e2, h⟩ := h
  obtain ⟨k3, h⟩ := h
  refine ex_alen (pc := 14) d_Sto_runReady_14 e2 (me_100 k3 (by decide)) ?_
  refine ex_icmp_ge (tgt := 46) (pc := 15) d_Sto_runReady_15 (by decide) (fun g => ?_) (fun g => ?_)
  · replace h := h.1 g
    refine ex_aload_n (pc := 46) d_Sto_runReady_46 rfl ?_
    obtain ⟨k4, h⟩ := h
    refine ex_getI (pc := 47) d_Sto_runReady_47 rfl rfl (by decide) k4 ?_
    refine ex_iload_n (pc := 50) d_Sto_runReady_50 rfl ?_
    refine ex_isub (pc := 51) d_Sto_runReady_51 ?_
    exact ex_ret_i (pc := 52) d_Sto_runReady_52 rfl h
  · replace h := h.2 g
    refine ex_aload_n (pc := 18) d_Sto_runReady_18 rfl ?_
    refine ex_aload_n (pc := 19) d_Sto_runReady_19 rfl ?_
    obtain ⟨k5, h⟩ := h
    refine ex_cVI (as := [_]) (st := []) (pc := 20) rfl rfl k5 rfl rfl rfl (Nat.le_of_ble_eq_true rfl) (EX.mono h fun r7 M6 h => ?_)
    obtain ⟨x8, rfl, h⟩ := h
    refine ⟨_, rfl, ?_⟩
    refine ex_istore (ls2 := [_, _, _, _, _]) (pc := 23) d_Sto_runReady_23 (Nat.le_of_ble_eq_true rfl) rfl ?_
    refine ex_iload (pc := 25) d_Sto_runReady_25 rfl ?_
    refine ex_if_ne (tgt := 33) (pc := 27) d_Sto_runReady_27 (by decide) (fun g => ?_) (fun g => ?_)
    · replace h := h.1 g
      refine ex_aload_n (pc := 33) d_Sto_runReady_33 rfl ?_
      refine ex_aload_n (pc := 34) d_Sto_runReady_34 rfl ?_
      refine ex_iload (pc := 35) d_Sto_runReady_35 rfl ?_
      obtain ⟨k9, h⟩ := h
      refine ex_cVV (as := [_, _]) (st := []) (pc := 37) rfl rfl k9 rfl rfl rfl (Nat.le_of_ble_eq_true rfl) (EX.mono h fun r11 M10 h => ?_)
      obtain ⟨rfl, h⟩ := h
      refine ⟨rfl, ?_⟩
      refine ex_iinc (ls2 := [_, _, _, _, _]) (pc := 40) d_Sto_runReady_40 rfl rfl ?_
      replace h := h _ rfl
      refine ex_goto (tgt := 12) (pc := 43) d_Sto_runReady_43 (by decide) ?_
      refine ex_drop (k := 4) (ls2 := [_, _, _, _, _]) rfl ?_
      exact h
    · replace h := h.2 g
      refine ex_goto (tgt := 46) (pc := 30) d_Sto_runReady_30 (by decide) ?_
      refine ex_aload_n (pc := 46) d_Sto_runReady_46 rfl ?_
      obtain ⟨k13, h⟩ := h
      refine ex_getI (pc := 47) d_Sto_runReady_47 rfl rfl (by decide) k13 ?_
      refine ex_iload_n (pc := 50) d_Sto_runReady_50 rfl ?_
      refine ex_isub (pc := 51) d_Sto_runReady_51 ?_
      exact ex_ret_i (pc := 52) d_Sto_runReady_52 rfl h
theorem sg_LM_execute_0 {h0 : Nat} {v1 : Int32} {M : me_M} {Q : Option me_V → me_M → Prop} (h : mKd M h0 = 1 ∧ EX eL X_LM_workingReplica 0 [some (.inr (some h0)), some (.inl v1)] [] M (fun r3 M2 => ∃ a4, r3 = some (.inr a4) ∧ ((¬ a4 = none) → ∃ q5, a4 = some q5 ∧ mKd M2 q5 = 3 ∧ ∃ q8, (mR M2 1134 q5 0) = some q8 ∧ mKd M2 q8 = 5 ∧ EX eL X_Sto_runReady 0 [some (.inr (some q8)), some (.inr (mR M2 1132 q5 0)), none, none, none] [] M2 (fun r12 M11 => ∃ x13, r12 = some (.inl x13) ∧ Q (some (.inl x13)) M11)) ∧ ((a4 = none) → Q (some (.inl (-1 : Int32))) M2))) : EX eL X_LM_execute 0 [some (.inr (some h0)), some (.inl v1), none] [] M Q := by
  refine ex_aload_n (pc := 0) d_LM_execute_0 rfl ?_
  refine ex_iload_n (pc := 1) d_LM_execute_1 rfl ?_
  obtain ⟨k1, h⟩ := h
  refine ex_cVR (as := [_]) (st := []) (pc := 2) rfl rfl k1 rfl rfl rfl (Nat.le_of_ble_eq_true rfl) (EX.mono h fun r3 M2 h => ?_)
  obtain ⟨a4, rfl, h⟩ := h
  refine ⟨_, rfl, ?_⟩
  refine ex_astore_n (ls2 := [_, _, _]) (pc := 5) d_LM_execute_5 (Nat.le_of_ble_eq_true rfl) rfl ?_
  refine ex_aload_n (pc := 6) d_LM_execute_6 rfl ?_
  refine ex_ifnonnull (tgt := 14) (pc := 7) d_LM_execute_7 (by decide) (fun g => ?_) (fun g => ?_)
  · replace h := h.1 g
    refine ex_aload_n (pc := 14) d_LM_execute_14 rfl ?_
    obtain ⟨q5, e6, h⟩ := h
    obtain ⟨k7, h⟩ := h
    refine ex_getR (pc := 15) d_LM_execute_15 e6 rfl k7 ?_
    refine ex_aload_n (pc := 18) d_LM_execute_18 rfl ?_
    refine ex_getR (pc := 19) d_LM_execute_19 e6 rfl k7 ?_
    obtain ⟨q8, e9, h⟩ := h
    obtain ⟨k10, h⟩ := h
    refine ex_cVI (as := [_]) (st := []) (pc := 22) e9 rfl k10 rfl rfl rfl (Nat.le_of_ble_eq_true rfl) (EX.mono h fun r12 M11 h => ?_)
    obtain ⟨x13, rfl, h⟩ := h
    refine ⟨_, rfl, ?_⟩
    exact ex_ret_i (pc := 25) d_LM_execute_25 rfl h
  · replace h := h.2 g
    refine ex_iconst (w := (-1 : Int32)) (pc := 10) d_LM_execute_10 (by decide) ?_
    refine ex_goto (tgt := 25) (pc := 11) d_LM_execute_11 (by decide) ?_
    exact ex_ret_i (pc := 25) d_LM_execute_25 rfl h
theorem sg_LM_waiting_0 {h0 : Nat} {M : me_M} {Q : Option me_V → me_M → Prop} (h : mKd M h0 = 1 ∧ ∃ q2, (mR M 1002 h0 0) = some q2 ∧ mKd M q2 = 2 ∧ Q (some (.inl (mI M 1065 q2 0))) M) : EX eL X_LM_waiting 0 [some (.inr (some h0))] [] M Q := by
  refine ex_aload_n (pc := 0) d_LM_waiting_0 rfl ?_
  obtain ⟨k1, h⟩ := h
  refine ex_getR (pc := 1) d_LM_waiting_1 rfl rfl k1 ?_
  obtain ⟨q2, e3, h⟩ := h
  obtain ⟨k4, h⟩ := h
  refine ex_getI (pc := 4) d_LM_waiting_4 e3 rfl (by decide) k4 ?_
  exact ex_ret_i (pc := 7) d_LM_waiting_7 rfl h
theorem sg_LM_message_0 {h0 : Nat} {v1 : Int32} {M : me_M} {Q : Option me_V → me_M → Prop} (h : mKd M h0 = 1 ∧ ∃ q2, (mR M 1002 h0 0) = some q2 ∧ mKd M q2 = 2 ∧ EX eL X_Net_at 0 [some (.inr (some q2)), some (.inl v1)] [] M (fun r6 M5 => ∃ a7, r6 = some (.inr a7) ∧ ((¬ a7 = none) → ∃ q8, a7 = some q8 ∧ mKd M5 q8 = 10 ∧ Q (some (.inl ((((mI M5 1576 q8 0) + (8 * (mI M5 1577 q8 0))) + (64 * (mI M5 1578 q8 0))) + (512 * (mI M5 1579 q8 0))))) M5) ∧ ((a7 = none) → Q (some (.inl (-1 : Int32))) M5))) : EX eL X_LM_message 0 [some (.inr (some h0)), some (.inl v1), none] [] M Q := by
  refine ex_aload_n (pc := 0) d_LM_message_0 rfl ?_
  obtain ⟨k1, h⟩ := h
  refine ex_getR (pc := 1) d_LM_message_1 rfl rfl k1 ?_
  refine ex_iload_n (pc := 4) d_LM_message_4 rfl ?_
  obtain ⟨q2, e3, h⟩ := h
  obtain ⟨k4, h⟩ := h
  refine ex_cVR (as := [_]) (st := []) (pc := 5) e3 rfl k4 rfl rfl rfl (Nat.le_of_ble_eq_true rfl) (EX.mono h fun r6 M5 h => ?_)
  obtain ⟨a7, rfl, h⟩ := h
  refine ⟨_, rfl, ?_⟩
  refine ex_astore_n (ls2 := [_, _, _]) (pc := 8) d_LM_message_8 (Nat.le_of_ble_eq_true rfl) rfl ?_
  refine ex_aload_n (pc := 9) d_LM_message_9 rfl ?_
  refine ex_ifnonnull (tgt := 15) (pc := 10) d_LM_message_10 (by decide) (fun g => ?_) (fun g => ?_)
  · replace h := h.1 g
    refine ex_aload_n (pc := 15) d_LM_message_15 rfl ?_
    obtain ⟨q8, e9, h⟩ := h
    obtain ⟨k10, h⟩ := h
    refine ex_getI (pc := 16) d_LM_message_16 e9 rfl (by decide) k10 ?_
    refine ex_bipush (w := 8) (pc := 19) d_LM_message_19 (by decide) ?_
    refine ex_aload_n (pc := 21) d_LM_message_21 rfl ?_
    refine ex_getI (pc := 22) d_LM_message_22 e9 rfl (by decide) k10 ?_
    refine ex_imul (pc := 25) d_LM_message_25 ?_
    refine ex_iadd (pc := 26) d_LM_message_26 ?_
    refine ex_bipush (w := 64) (pc := 27) d_LM_message_27 (by decide) ?_
    refine ex_aload_n (pc := 29) d_LM_message_29 rfl ?_
    refine ex_getI (pc := 30) d_LM_message_30 e9 rfl (by decide) k10 ?_
    refine ex_imul (pc := 33) d_LM_message_33 ?_
    refine ex_iadd (pc := 34) d_LM_message_34 ?_
    refine ex_sipush (w := 512) (pc := 35) d_LM_message_35 (by decide) ?_
    refine ex_aload_n (pc := 38) d_LM_message_38 rfl ?_
    refine ex_getI (pc := 39) d_LM_message_39 e9 rfl (by decide) k10 ?_
    refine ex_imul (pc := 42) d_LM_message_42 ?_
    refine ex_iadd (pc := 43) d_LM_message_43 ?_
    exact ex_ret_i (pc := 44) d_LM_message_44 rfl h
  · replace h := h.2 g
    refine ex_iconst (w := (-1 : Int32)) (pc := 13) d_LM_message_13 (by decide) ?_
    exact ex_ret_i (pc := 14) d_LM_message_14 rfl h
theorem sg_LM_lost_0 {h0 : Nat} {M : me_M} {Q : Option me_V → me_M → Prop} (h : mKd M h0 = 1 ∧ ∃ q2, (mR M 1002 h0 0) = some q2 ∧ mKd M q2 = 2 ∧ Q (some (.inl (mI M 1066 q2 0))) M) : EX eL X_LM_lost 0 [some (.inr (some h0))] [] M Q := by
  refine ex_aload_n (pc := 0) d_LM_lost_0 rfl ?_
  obtain ⟨k1, h⟩ := h
  refine ex_getR (pc := 1) d_LM_lost_1 rfl rfl k1 ?_
  obtain ⟨q2, e3, h⟩ := h
  obtain ⟨k4, h⟩ := h
  refine ex_getI (pc := 4) d_LM_lost_4 e3 rfl (by decide) k4 ?_
  exact ex_ret_i (pc := 7) d_LM_lost_7 rfl h
theorem sg_LM_state_0 {h0 : Nat} {v1 : Int32} {v2 : Int32} {M : me_M} {Q : Option me_V → me_M → Prop} (h : mKd M h0 = 1 ∧ EX eL X_LM_entryAt 0 [some (.inr (some h0)), some (.inl v1), some (.inl v2), none] [] M (fun r3 M2 => ∃ a4, r3 = some (.inr a4) ∧ ((¬ a4 = none) → ∃ q5, a4 = some q5 ∧ mKd M2 q5 = 4 ∧ Q (some (.inl (mI M2 1192 q5 0))) M2) ∧ ((a4 = none) → Q (some (.inl (-1 : Int32))) M2))) : EX eL X_LM_state 0 [some (.inr (some h0)), some (.inl v1), some (.inl v2), none] [] M Q := by
  refine ex_aload_n (pc := 0) d_LM_state_0 rfl ?_
  refine ex_iload_n (pc := 1) d_LM_state_1 rfl ?_
  refine ex_iload_n (pc := 2) d_LM_state_2 rfl ?_
  obtain ⟨k1, h⟩ := h
  refine ex_cVR (as := [_, _]) (st := []) (pc := 3) rfl rfl k1 rfl rfl rfl (Nat.le_of_ble_eq_true rfl) (EX.mono h fun r3 M2 h => ?_)
  obtain ⟨a4, rfl, h⟩ := h
  refine ⟨_, rfl, ?_⟩
  refine ex_astore_n (ls2 := [_, _, _, _]) (pc := 6) d_LM_state_6 (Nat.le_of_ble_eq_true rfl) rfl ?_
  refine ex_aload_n (pc := 7) d_LM_state_7 rfl ?_
  refine ex_ifnonnull (tgt := 15) (pc := 8) d_LM_state_8 (by decide) (fun g => ?_) (fun g => ?_)
  · replace h := h.1 g
    refine ex_aload_n (pc := 15) d_LM_state_15 rfl ?_
    obtain ⟨q5, e6, h⟩ := h
    obtain ⟨k7, h⟩ := h
    refine ex_getI (pc := 16) d_LM_state_16 e6 rfl (by decide) k7 ?_
    exact ex_ret_i (pc := 19) d_LM_state_19 rfl h
  · replace h := h.2 g
    refine ex_iconst (w := (-1 : Int32)) (pc := 11) d_LM_state_11 (by decide) ?_
    refine ex_goto (tgt := 19) (pc := 12) d_LM_state_12 (by decide) ?_
    exact ex_ret_i (pc := 19) d_LM_state_19 rfl h
theorem sg_LM_orderAt_0 {h0 : Nat} {v1 : Int32} {v2 : Int32} {M : me_M} {Q : Option me_V → me_M → Prop} (h : mKd M h0 = 1 ∧ EX eL X_LM_entryAt 0 [some (.inr (some h0)), some (.inl v1), some (.inl v2), none] [] M (fun r3 M2 => ∃ a4, r3 = some (.inr a4) ∧ ((¬ a4 = none) → ∃ q5, a4 = some q5 ∧ mKd M2 q5 = 4 ∧ Q (some (.inr (mR M2 1193 q5 0))) M2) ∧ ((a4 = none) → Q (some (.inr none)) M2))) : EX eL X_LM_orderAt 0 [some (.inr (some h0)), some (.inl v1), some (.inl v2), none] [] M Q := by
  refine ex_aload_n (pc := 0) d_LM_orderAt_0 rfl ?_
  refine ex_iload_n (pc := 1) d_LM_orderAt_1 rfl ?_
  refine ex_iload_n (pc := 2) d_LM_orderAt_2 rfl ?_
  obtain ⟨k1, h⟩ := h
  refine ex_cVR (as := [_, _]) (st := []) (pc := 3) rfl rfl k1 rfl rfl rfl (Nat.le_of_ble_eq_true rfl) (EX.mono h fun r3 M2 h => ?_)
  obtain ⟨a4, rfl, h⟩ := h
  refine ⟨_, rfl, ?_⟩
  refine ex_astore_n (ls2 := [_, _, _, _]) (pc := 6) d_LM_orderAt_6 (Nat.le_of_ble_eq_true rfl) rfl ?_
  refine ex_aload_n (pc := 7) d_LM_orderAt_7 rfl ?_
  refine ex_ifnonnull (tgt := 15) (pc := 8) d_LM_orderAt_8 (by decide) (fun g => ?_) (fun g => ?_)
  · replace h := h.1 g
    refine ex_aload_n (pc := 15) d_LM_orderAt_15 rfl ?_
    obtain ⟨q5, e6, h⟩ := h
    obtain ⟨k7, h⟩ := h
    refine ex_getR (pc := 16) d_LM_orderAt_16 e6 rfl k7 ?_
    exact ex_ret_a (pc := 19) d_LM_orderAt_19 rfl h
  · replace h := h.2 g
    refine ex_null (pc := 11) d_LM_orderAt_11 ?_
    refine ex_goto (tgt := 19) (pc := 12) d_LM_orderAt_12 (by decide) ?_
    exact ex_ret_a (pc := 19) d_LM_orderAt_19 rfl h
theorem sg_Cmd_code_0 {h0 : Nat} {M : me_M} {Q : Option me_V → me_M → Prop} (h : mKd M h0 = 7 ∧ ((¬ (mI M 1384 h0 0) = 2) → ((¬ (mI M 1384 h0 0) = 1) → Q (some (.inl (mI M 1385 h0 0))) M) ∧ (((mI M 1384 h0 0) = 1) → Q (some (.inl (4 + (mI M 1385 h0 0)))) M)) ∧ (((mI M 1384 h0 0) = 2) → Q (some (.inl 8)) M)) : EX eL X_Cmd_code 0 [some (.inr (some h0))] [] M Q := by
  refine ex_aload_n (pc := 0) d_Cmd_code_0 rfl ?_
  obtain ⟨k1, h⟩ := h
  refine ex_getI (pc := 1) d_Cmd_code_1 rfl rfl (by decide) k1 ?_
  refine ex_iconst (w := 2) (pc := 4) d_Cmd_code_4 (by decide) ?_
  refine ex_icmp_ne (tgt := 11) (pc := 5) d_Cmd_code_5 (by decide) (fun g => ?_) (fun g => ?_)
  · replace h := h.1 g
    refine ex_aload_n (pc := 11) d_Cmd_code_11 rfl ?_
    refine ex_getI (pc := 12) d_Cmd_code_12 rfl rfl (by decide) k1 ?_
    refine ex_iconst (w := 1) (pc := 15) d_Cmd_code_15 (by decide) ?_
    refine ex_icmp_ne (tgt := 28) (pc := 16) d_Cmd_code_16 (by decide) (fun g => ?_) (fun g => ?_)
    · replace h := h.1 g
      refine ex_aload_n (pc := 28) d_Cmd_code_28 rfl ?_
      refine ex_getI (pc := 29) d_Cmd_code_29 rfl rfl (by decide) k1 ?_
      exact ex_ret_i (pc := 32) d_Cmd_code_32 rfl h
    · replace h := h.2 g
      refine ex_iconst (w := 4) (pc := 19) d_Cmd_code_19 (by decide) ?_
      refine ex_aload_n (pc := 20) d_Cmd_code_20 rfl ?_
      refine ex_getI (pc := 21) d_Cmd_code_21 rfl rfl (by decide) k1 ?_
      refine ex_iadd (pc := 24) d_Cmd_code_24 ?_
      refine ex_goto (tgt := 32) (pc := 25) d_Cmd_code_25 (by decide) ?_
      exact ex_ret_i (pc := 32) d_Cmd_code_32 rfl h
  · replace h := h.2 g
    refine ex_bipush (w := 8) (pc := 8) d_Cmd_code_8 (by decide) ?_
    exact ex_ret_i (pc := 10) d_Cmd_code_10 rfl h
theorem sg_LM_command_0 {h0 : Nat} {v1 : Int32} {v2 : Int32} {M : me_M} {Q : Option me_V → me_M → Prop} (h : mKd M h0 = 1 ∧ EX eL X_LM_orderAt 0 [some (.inr (some h0)), some (.inl v1), some (.inl v2), none] [] M (fun r3 M2 => ∃ a4, r3 = some (.inr a4) ∧ ((¬ a4 = none) → ∃ q5, a4 = some q5 ∧ mKd M2 q5 = 8 ∧ ∃ q8, (mR M2 1448 q5 0) = some q8 ∧ mKd M2 q8 = 7 ∧ EX eL X_Cmd_code 0 [some (.inr (some q8))] [] M2 (fun r12 M11 => ∃ x13, r12 = some (.inl x13) ∧ Q (some (.inl x13)) M11)) ∧ ((a4 = none) → Q (some (.inl (-1 : Int32))) M2))) : EX eL X_LM_command 0 [some (.inr (some h0)), some (.inl v1), some (.inl v2), none] [] M Q := by
  refine ex_aload_n (pc := 0) d_LM_command_0 rfl ?_
  refine ex_iload_n (pc := 1) d_LM_command_1 rfl ?_
  refine ex_iload_n (pc := 2) d_LM_command_2 rfl ?_
  obtain ⟨k1, h⟩ := h
  refine ex_cVR (as := [_, _]) (st := []) (pc := 3) rfl rfl k1 rfl rfl rfl (Nat.le_of_ble_eq_true rfl) (EX.mono h fun r3 M2 h => ?_)
  obtain ⟨a4, rfl, h⟩ := h
  refine ⟨_, rfl, ?_⟩
  refine ex_astore_n (ls2 := [_, _, _, _]) (pc := 6) d_LM_command_6 (Nat.le_of_ble_eq_true rfl) rfl ?_
  refine ex_aload_n (pc := 7) d_LM_command_7 rfl ?_
  refine ex_ifnonnull (tgt := 15) (pc := 8) d_LM_command_8 (by decide) (fun g => ?_) (fun g => ?_)
  · replace h := h.1 g
    refine ex_aload_n (pc := 15) d_LM_command_15 rfl ?_
    obtain ⟨q5, e6, h⟩ := h
    obtain ⟨k7, h⟩ := h
    refine ex_getR (pc := 16) d_LM_command_16 e6 rfl k7 ?_
    obtain ⟨q8, e9, h⟩ := h
    obtain ⟨k10, h⟩ := h
    refine ex_cVI (as := []) (st := []) (pc := 19) e9 rfl k10 rfl rfl rfl (Nat.le_of_ble_eq_true rfl) (EX.mono h fun r12 M11 h => ?_)
    obtain ⟨x13, rfl, h⟩ := h
    refine ⟨_, rfl, ?_⟩
    exact ex_ret_i (pc := 22) d_LM_command_22 rfl h
  · replace h := h.2 g
    refine ex_iconst (w := (-1 : Int32)) (pc := 11) d_LM_command_11 (by decide) ?_
    refine ex_goto (tgt := 22) (pc := 12) d_LM_command_12 (by decide) ?_
    exact ex_ret_i (pc := 22) d_LM_command_22 rfl h
theorem sg_LM_seq_0 {h0 : Nat} {v1 : Int32} {v2 : Int32} {M : me_M} {Q : Option me_V → me_M → Prop} (h : mKd M h0 = 1 ∧ EX eL X_LM_orderAt 0 [some (.inr (some h0)), some (.inl v1), some (.inl v2), none] [] M (fun r3 M2 => ∃ a4, r3 = some (.inr a4) ∧ ((¬ a4 = none) → ∃ q5, a4 = some q5 ∧ mKd M2 q5 = 8 ∧ Q (some (.inl (mI M2 1449 q5 0))) M2) ∧ ((a4 = none) → Q (some (.inl (-1 : Int32))) M2))) : EX eL X_LM_seq 0 [some (.inr (some h0)), some (.inl v1), some (.inl v2), none] [] M Q := by
  refine ex_aload_n (pc := 0) d_LM_seq_0 rfl ?_
  refine ex_iload_n (pc := 1) d_LM_seq_1 rfl ?_
  refine ex_iload_n (pc := 2) d_LM_seq_2 rfl ?_
  obtain ⟨k1, h⟩ := h
  refine ex_cVR (as := [_, _]) (st := []) (pc := 3) rfl rfl k1 rfl rfl rfl (Nat.le_of_ble_eq_true rfl) (EX.mono h fun r3 M2 h => ?_)
  obtain ⟨a4, rfl, h⟩ := h
  refine ⟨_, rfl, ?_⟩
  refine ex_astore_n (ls2 := [_, _, _, _]) (pc := 6) d_LM_seq_6 (Nat.le_of_ble_eq_true rfl) rfl ?_
  refine ex_aload_n (pc := 7) d_LM_seq_7 rfl ?_
  refine ex_ifnonnull (tgt := 15) (pc := 8) d_LM_seq_8 (by decide) (fun g => ?_) (fun g => ?_)
  · replace h := h.1 g
    refine ex_aload_n (pc := 15) d_LM_seq_15 rfl ?_
    obtain ⟨q5, e6, h⟩ := h
    obtain ⟨k7, h⟩ := h
    refine ex_getI (pc := 16) d_LM_seq_16 e6 rfl (by decide) k7 ?_
    exact ex_ret_i (pc := 19) d_LM_seq_19 rfl h
  · replace h := h.2 g
    refine ex_iconst (w := (-1 : Int32)) (pc := 11) d_LM_seq_11 (by decide) ?_
    refine ex_goto (tgt := 19) (pc := 12) d_LM_seq_12 (by decide) ?_
    exact ex_ret_i (pc := 19) d_LM_seq_19 rfl h
theorem sg_LM_deps_0 {h0 : Nat} {v1 : Int32} {v2 : Int32} {M : me_M} {Q : Option me_V → me_M → Prop} (h : mKd M h0 = 1 ∧ EX eL X_LM_orderAt 0 [some (.inr (some h0)), some (.inl v1), some (.inl v2), none] [] M (fun r3 M2 => ∃ a4, r3 = some (.inr a4) ∧ ((¬ a4 = none) → ∃ q5, a4 = some q5 ∧ mKd M2 q5 = 8 ∧ Q (some (.inl (mI M2 1450 q5 0))) M2) ∧ ((a4 = none) → Q (some (.inl (-1 : Int32))) M2))) : EX eL X_LM_deps 0 [some (.inr (some h0)), some (.inl v1), some (.inl v2), none] [] M Q := by
  refine ex_aload_n (pc := 0) d_LM_deps_0 rfl ?_
  refine ex_iload_n (pc := 1) d_LM_deps_1 rfl ?_
  refine ex_iload_n (pc := 2) d_LM_deps_2 rfl ?_
  obtain ⟨k1, h⟩ := h
  refine ex_cVR (as := [_, _]) (st := []) (pc := 3) rfl rfl k1 rfl rfl rfl (Nat.le_of_ble_eq_true rfl) (EX.mono h fun r3 M2 h => ?_)
  obtain ⟨a4, rfl, h⟩ := h
  refine ⟨_, rfl, ?_⟩
  refine ex_astore_n (ls2 := [_, _, _, _]) (pc := 6) d_LM_deps_6 (Nat.le_of_ble_eq_true rfl) rfl ?_
  refine ex_aload_n (pc := 7) d_LM_deps_7 rfl ?_
  refine ex_ifnonnull (tgt := 15) (pc := 8) d_LM_deps_8 (by decide) (fun g => ?_) (fun g => ?_)
  · replace h := h.1 g
    refine ex_aload_n (pc := 15) d_LM_deps_15 rfl ?_
    obtain ⟨q5, e6, h⟩ := h
    obtain ⟨k7, h⟩ := h
    refine ex_getI (pc := 16) d_LM_deps_16 e6 rfl (by decide) k7 ?_
    exact ex_ret_i (pc := 19) d_LM_deps_19 rfl h
  · replace h := h.2 g
    refine ex_iconst (w := (-1 : Int32)) (pc := 11) d_LM_deps_11 (by decide) ?_
    refine ex_goto (tgt := 19) (pc := 12) d_LM_deps_12 (by decide) ?_
    exact ex_ret_i (pc := 19) d_LM_deps_19 rfl h
theorem sg_LM_promised_0 {h0 : Nat} {v1 : Int32} {v2 : Int32} {M : me_M} {Q : Option me_V → me_M → Prop} (h : mKd M h0 = 1 ∧ EX eL X_LM_entryAt 0 [some (.inr (some h0)), some (.inl v1), some (.inl v2), none] [] M (fun r3 M2 => ∃ a4, r3 = some (.inr a4) ∧ ((¬ a4 = none) → ∃ q5, a4 = some q5 ∧ mKd M2 q5 = 4 ∧ Q (some (.inl (mI M2 1194 q5 0))) M2) ∧ ((a4 = none) → Q (some (.inl (-1 : Int32))) M2))) : EX eL X_LM_promised 0 [some (.inr (some h0)), some (.inl v1), some (.inl v2), none] [] M Q := by
  refine ex_aload_n (pc := 0) d_LM_promised_0 rfl ?_
  refine ex_iload_n (pc := 1) d_LM_promised_1 rfl ?_
  refine ex_iload_n (pc := 2) d_LM_promised_2 rfl ?_
  obtain ⟨k1, h⟩ := h
  refine ex_cVR (as := [_, _]) (st := []) (pc := 3) rfl rfl k1 rfl rfl rfl (Nat.le_of_ble_eq_true rfl) (EX.mono h fun r3 M2 h => ?_)
  obtain ⟨a4, rfl, h⟩ := h
  refine ⟨_, rfl, ?_⟩
  refine ex_astore_n (ls2 := [_, _, _, _]) (pc := 6) d_LM_promised_6 (Nat.le_of_ble_eq_true rfl) rfl ?_
  refine ex_aload_n (pc := 7) d_LM_promised_7 rfl ?_
  refine ex_ifnonnull (tgt := 15) (pc := 8) d_LM_promised_8 (by decide) (fun g => ?_) (fun g => ?_)
  · replace h := h.1 g
    refine ex_aload_n (pc := 15) d_LM_promised_15 rfl ?_
    obtain ⟨q5, e6, h⟩ := h
    obtain ⟨k7, h⟩ := h
    refine ex_getI (pc := 16) d_LM_promised_16 e6 rfl (by decide) k7 ?_
    exact ex_ret_i (pc := 19) d_LM_promised_19 rfl h
  · replace h := h.2 g
    refine ex_iconst (w := (-1 : Int32)) (pc := 11) d_LM_promised_11 (by decide) ?_
    refine ex_goto (tgt := 19) (pc := 12) d_LM_promised_12 (by decide) ?_
    exact ex_ret_i (pc := 19) d_LM_promised_19 rfl h
theorem sg_LM_result_0 {h0 : Nat} {v1 : Int32} {v2 : Int32} {M : me_M} {Q : Option me_V → me_M → Prop} (h : mKd M h0 = 1 ∧ EX eL X_LM_entryAt 0 [some (.inr (some h0)), some (.inl v1), some (.inl v2), none] [] M (fun r3 M2 => ∃ a4, r3 = some (.inr a4) ∧ ((a4 = none) → Q (some (.inl 0)) M2) ∧ ((¬ a4 = none) → ∃ q5, a4 = some q5 ∧ mKd M2 q5 = 4 ∧ (((mI M2 1192 q5 0) = 4) → Q (some (.inl (mI M2 1196 q5 0))) M2) ∧ ((¬ (mI M2 1192 q5 0) = 4) → Q (some (.inl 0)) M2)))) : EX eL X_LM_result 0 [some (.inr (some h0)), some (.inl v1), some (.inl v2), none] [] M Q := by
  refine ex_aload_n (pc := 0) d_LM_result_0 rfl ?_
  refine ex_iload_n (pc := 1) d_LM_result_1 rfl ?_
  refine ex_iload_n (pc := 2) d_LM_result_2 rfl ?_
  obtain ⟨k1, h⟩ := h
  refine ex_cVR (as := [_, _]) (st := []) (pc := 3) rfl rfl k1 rfl rfl rfl (Nat.le_of_ble_eq_true rfl) (EX.mono h fun r3 M2 h => ?_)
  obtain ⟨a4, rfl, h⟩ := h
  refine ⟨_, rfl, ?_⟩
  refine ex_astore_n (ls2 := [_, _, _, _]) (pc := 6) d_LM_result_6 (Nat.le_of_ble_eq_true rfl) rfl ?_
  refine ex_aload_n (pc := 7) d_LM_result_7 rfl ?_
  refine ex_ifnull (tgt := 19) (pc := 8) d_LM_result_8 (by decide) (fun g => ?_) (fun g => ?_)
  · replace h := h.1 g
    refine ex_iconst (w := 0) (pc := 19) d_LM_result_19 (by decide) ?_
    refine ex_goto (tgt := 27) (pc := 20) d_LM_result_20 (by decide) ?_
    exact ex_ret_i (pc := 27) d_LM_result_27 rfl h
  · replace h := h.2 g
    refine ex_aload_n (pc := 11) d_LM_result_11 rfl ?_
    obtain ⟨q5, e6, h⟩ := h
    obtain ⟨k7, h⟩ := h
    refine ex_getI (pc := 12) d_LM_result_12 e6 rfl (by decide) k7 ?_
    refine ex_iconst (w := 4) (pc := 15) d_LM_result_15 (by decide) ?_
    refine ex_icmp_eq (tgt := 23) (pc := 16) d_LM_result_16 (by decide) (fun g => ?_) (fun g => ?_)
    · replace h := h.1 g
      refine ex_aload_n (pc := 23) d_LM_result_23 rfl ?_
      refine ex_getI (pc := 24) d_LM_result_24 e6 rfl (by decide) k7 ?_
      exact ex_ret_i (pc := 27) d_LM_result_27 rfl h
    · replace h := h.2 g
      refine ex_iconst (w := 0) (pc := 19) d_LM_result_19 (by decide) ?_
      refine ex_goto (tgt := 27) (pc := 20) d_LM_result_20 (by decide) ?_
      exact ex_ret_i (pc := 27) d_LM_result_27 rfl h
theorem sg_LM_place_0 {h0 : Nat} {v1 : Int32} {v2 : Int32} {M : me_M} {Q : Option me_V → me_M → Prop} (h : mKd M h0 = 1 ∧ EX eL X_LM_entryAt 0 [some (.inr (some h0)), some (.inl v1), some (.inl v2), none] [] M (fun r3 M2 => ∃ a4, r3 = some (.inr a4) ∧ ((a4 = none) → Q (some (.inl (-1 : Int32))) M2) ∧ ((¬ a4 = none) → ∃ q5, a4 = some q5 ∧ mKd M2 q5 = 4 ∧ (((mI M2 1192 q5 0) = 4) → Q (some (.inl (mI M2 1197 q5 0))) M2) ∧ ((¬ (mI M2 1192 q5 0) = 4) → Q (some (.inl (-1 : Int32))) M2)))) : EX eL X_LM_place 0 [some (.inr (some h0)), some (.inl v1), some (.inl v2), none] [] M Q := by
  refine ex_aload_n (pc := 0) d_LM_place_0 rfl ?_
  refine ex_iload_n (pc := 1) d_LM_place_1 rfl ?_
  refine ex_iload_n (pc := 2) d_LM_place_2 rfl ?_
  obtain ⟨k1, h⟩ := h
  refine ex_cVR (as := [_, _]) (st := []) (pc := 3) rfl rfl k1 rfl rfl rfl (Nat.le_of_ble_eq_true rfl) (EX.mono h fun r3 M2 h => ?_)
  obtain ⟨a4, rfl, h⟩ := h
  refine ⟨_, rfl, ?_⟩
  refine ex_astore_n (ls2 := [_, _, _, _]) (pc := 6) d_LM_place_6 (Nat.le_of_ble_eq_true rfl) rfl ?_
  refine ex_aload_n (pc := 7) d_LM_place_7 rfl ?_
  refine ex_ifnull (tgt := 19) (pc := 8) d_LM_place_8 (by decide) (fun g => ?_) (fun g => ?_)
  · replace h := h.1 g
    refine ex_iconst (w := (-1 : Int32)) (pc := 19) d_LM_place_19 (by decide) ?_
    refine ex_goto (tgt := 27) (pc := 20) d_LM_place_20 (by decide) ?_
    exact ex_ret_i (pc := 27) d_LM_place_27 rfl h
  · replace h := h.2 g
    refine ex_aload_n (pc := 11) d_LM_place_11 rfl ?_
    obtain ⟨q5, e6, h⟩ := h
    obtain ⟨k7, h⟩ := h
    refine ex_getI (pc := 12) d_LM_place_12 e6 rfl (by decide) k7 ?_
    refine ex_iconst (w := 4) (pc := 15) d_LM_place_15 (by decide) ?_
    refine ex_icmp_eq (tgt := 23) (pc := 16) d_LM_place_16 (by decide) (fun g => ?_) (fun g => ?_)
    · replace h := h.1 g
      refine ex_aload_n (pc := 23) d_LM_place_23 rfl ?_
      refine ex_getI (pc := 24) d_LM_place_24 e6 rfl (by decide) k7 ?_
      exact ex_ret_i (pc := 27) d_LM_place_27 rfl h
    · replace h := h.2 g
      refine ex_iconst (w := (-1 : Int32)) (pc := 19) d_LM_place_19 (by decide) ?_
      refine ex_goto (tgt := 27) (pc := 20) d_LM_place_20 (by decide) ?_
      exact ex_ret_i (pc := 27) d_LM_place_27 rfl h
theorem sg_LM_value_0 {h0 : Nat} {v1 : Int32} {v2 : Int32} {M : me_M} {Q : Option me_V → me_M → Prop} (h : mKd M h0 = 1 ∧ EX eL X_LM_isReplica 0 [some (.inr (some h0)), some (.inl v1)] [] M (fun r3 M2 => ∃ x4, r3 = some (.inl x4) ∧ ((x4 = 0) → Q (some (.inl 0)) M2) ∧ ((¬ x4 = 0) → mKd M2 h0 = 1 ∧ EX eL X_LM_isKey 0 [some (.inr (some h0)), some (.inl v2)] [] M2 (fun r7 M6 => ∃ x8, r7 = some (.inl x8) ∧ ((x8 = 0) → Q (some (.inl 0)) M6) ∧ ((¬ x8 = 0) → mKd M6 h0 = 1 ∧ ∃ q10, (mR M6 1003 h0 0) = some q10 ∧ mKd M6 q10 = 103 ∧ vp_in v1 (mLn M6 q10) ∧ ∃ q14, (mR M6 103 q10 v1.toNatClampNeg) = some q14 ∧ mKd M6 q14 = 3 ∧ ∃ q17, (mR M6 1134 q14 0) = some q17 ∧ mKd M6 q17 = 5 ∧ ∃ q20, (mR M6 1256 q17 0) = some q20 ∧ mKd M6 q20 = 100 ∧ vp_in v2 (mLn M6 q20) ∧ Q (some (.inl (mI M6 100 q20 v2.toNatClampNeg))) M6))))) : EX eL X_LM_value 0 [some (.inr (some h0)), some (.inl v1), some (.inl v2)] [] M Q := by
  refine ex_aload_n (pc := 0) d_LM_value_0 rfl ?_
  refine ex_iload_n (pc := 1) d_LM_value_1 rfl ?_
  obtain ⟨k1, h⟩ := h
  refine ex_cVI (as := [_]) (st := []) (pc := 2) rfl rfl k1 rfl rfl rfl (Nat.le_of_ble_eq_true rfl) (EX.mono h fun r3 M2 h => ?_)
  obtain ⟨x4, rfl, h⟩ := h
  refine ⟨_, rfl, ?_⟩
  refine ex_if_eq (tgt := 33) (pc := 5) d_LM_value_5 (by decide) (fun g => ?_) (fun g => ?_)
  · replace h := h.1 g
    refine ex_iconst (w := 0) (pc := 33) d_LM_value_33 (by decide) ?_
    exact ex_ret_i (pc := 34) d_LM_value_34 rfl h
  · replace h := h.2 g
    refine ex_aload_n (pc := 8) d_LM_value_8 rfl ?_
    refine ex_iload_n (pc := 9) d_LM_value_9 rfl ?_
    obtain ⟨k5, h⟩ := h
    refine ex_cVI (as := [_]) (st := []) (pc := 10) rfl rfl k5 rfl rfl rfl (Nat.le_of_ble_eq_true rfl) (EX.mono h fun r7 M6 h => ?_)
    obtain ⟨x8, rfl, h⟩ := h
    refine ⟨_, rfl, ?_⟩
    refine ex_if_eq (tgt := 33) (pc := 13) d_LM_value_13 (by decide) (fun g => ?_) (fun g => ?_)
    · replace h := h.1 g
      refine ex_iconst (w := 0) (pc := 33) d_LM_value_33 (by decide) ?_
      exact ex_ret_i (pc := 34) d_LM_value_34 rfl h
    · replace h := h.2 g
      refine ex_aload_n (pc := 16) d_LM_value_16 rfl ?_
      obtain ⟨k9, h⟩ := h
      refine ex_getR (pc := 17) d_LM_value_17 rfl rfl k9 ?_
      refine ex_iload_n (pc := 20) d_LM_value_20 rfl ?_
      obtain ⟨q10, e11, h⟩ := h
      obtain ⟨k12, h⟩ := h
      obtain ⟨b13, h⟩ := h
      refine ex_aald (pc := 21) d_LM_value_21 e11 k12 (by decide) b13 ?_
      obtain ⟨q14, e15, h⟩ := h
      obtain ⟨k16, h⟩ := h
      refine ex_getR (pc := 22) d_LM_value_22 e15 rfl k16 ?_
      obtain ⟨q17, e18, h⟩ := h
      obtain ⟨k19, h⟩ := h
      refine ex_getR (pc := 25) d_LM_value_25 e18 rfl k19 ?_
      refine ex_iload_n (pc := 28) d_LM_value_28 rfl ?_
      obtain ⟨q20, e21, h⟩ := h
      obtain ⟨k22, h⟩ := h
      obtain ⟨b23, h⟩ := h
      refine ex_iald (pc := 29) d_LM_value_29 e21 k22 b23 ?_
      refine ex_goto (tgt := 34) (pc := 30) d_LM_value_30 (by decide) ?_
      exact ex_ret_i (pc := 34) d_LM_value_34 rfl h
