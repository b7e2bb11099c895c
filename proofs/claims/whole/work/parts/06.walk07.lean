theorem sg_Law_law_0 {bS L : Nat} {xs : Nat → Int32} {M : me_M} {Q : Option me_V → me_M → Prop} (h : ∀ q2 M1, q2 = mSz M → M1 = mNew M 1 0 5 → EX eL (X_Law_cell bS L xs) 0 [some (.inr (some bS)), some (.inl 0)] [] M1 (fun r5 M4 => ∃ x6, r5 = some (.inl x6) ∧ mKd M4 q2 = 1 ∧ EX eL X_LM_init 0 [some (.inr (some q2)), some (.inl x6), none] [] M4 (fun r9 M8 => r9 = none ∧ ∀ q11 M10, q11 = mSz M8 → M10 = mNew M8 11 0 30 → EX eL (X_Law_cell bS L xs) 0 [some (.inr (some bS)), some (.inl 0)] [] M10 (fun r14 M13 => ∃ x15, r14 = some (.inl x15) ∧ mKd M13 q11 = 11 ∧ EX eL X_Md_init 0 [some (.inr (some q11)), some (.inl x15)] [] M13 (fun r18 M17 => r18 = none ∧ EX eL (X_Law_law bS L xs) 28 [some (.inr (some bS)), some (.inr (some q2)), some (.inr (some q11)), some (.inl 1)] [] M17 Q))))) : EX eL (X_Law_law bS L xs) 0 [some (.inr (some bS)), none, none, none] [] M Q := by
  refine ex_new (ci := 0) (n := 5) (pc := 0) d_Law_law_0 rfl (fun k3 => ?_)
  replace h := h _ _ rfl rfl
  refine ex_dup (pc := 3) d_Law_law_3 ?_
  refine ex_aload_n (pc := 4) d_Law_law_4 rfl ?_
  refine ex_iconst (w := 0) (pc := 5) d_Law_law_5 (by decide) ?_
  refine ex_cSI (as := [_, _]) (st := [_, _]) (pc := 6) rfl rfl rfl rfl (Nat.le_of_ble_eq_true rfl) (EX.mono h fun r5 M4 h => ?_)
  obtain ⟨x6, rfl, h⟩ := h
  refine ⟨_, rfl, ?_⟩
  obtain ⟨k7, h⟩ := h
  refine ex_cVV (as := [_]) (st := [_]) (pc := 9) rfl rfl k7 rfl rfl rfl (Nat.le_of_ble_eq_true rfl) (EX.mono h fun r9 M8 h => ?_)
  obtain ⟨rfl, h⟩ := h
  refine ⟨rfl, ?_⟩
  refine ex_astore_n (ls2 := [_, _, _, _]) (pc := 12) d_Law_law_12 (Nat.le_of_ble_eq_true rfl) rfl ?_
  refine ex_new (ci := 10) (n := 30) (pc := 13) d_Law_law_13 rfl (fun k12 => ?_)
  replace h := h _ _ rfl rfl
  refine ex_dup (pc := 16) d_Law_law_16 ?_
  refine ex_aload_n (pc := 17) d_Law_law_17 rfl ?_
  refine ex_iconst (w := 0) (pc := 18) d_Law_law_18 (by decide) ?_
  refine ex_cSI (as := [_, _]) (st := [_, _]) (pc := 19) rfl rfl rfl rfl (Nat.le_of_ble_eq_true rfl) (EX.mono h fun r14 M13 h => ?_)
  obtain ⟨x15, rfl, h⟩ := h
  refine ⟨_, rfl, ?_⟩
  obtain ⟨k16, h⟩ := h
  refine ex_cVV (as := [_]) (st := [_]) (pc := 22) rfl rfl k16 rfl rfl rfl (Nat.le_of_ble_eq_true rfl) (EX.mono h fun r18 M17 h => ?_)
  obtain ⟨rfl, h⟩ := h
  refine ⟨rfl, ?_⟩
  refine ex_astore_n (ls2 := [_, _, _, _]) (pc := 25) d_Law_law_25 (Nat.le_of_ble_eq_true rfl) rfl ?_
  refine ex_iconst (w := 1) (pc := 26) d_Law_law_26 (by decide) ?_
  refine ex_istore_n (ls2 := [_, _, _, _]) (pc := 27) d_Law_law_27 (Nat.le_of_ble_eq_true rfl) rfl ?_
  exact h
theorem sg_Law_law_28 {bS L : Nat} {xs : Nat → Int32} {a1 : Option Nat} {a2 : Option Nat} {v3 : Int32} {M : me_M} {Q : Option me_V → me_M → Prop} (h : ((((Int32.ofNat L) - 5) < v3) → Q (some (.inl 1)) M) ∧ ((¬ ((Int32.ofNat L) - 5) < v3) → vp_in v3 L ∧ (((((xs v3.toNatClampNeg) &&& 31)).toInt < 0 ∨ 16 < (((xs v3.toNatClampNeg) &&& 31)).toInt → ∀ x2, x2 = v3 + Int32.ofInt 5 → EX eL (X_Law_law bS L xs) 28 [some (.inr (some bS)), some (.inr a1), some (.inr a2), some (.inl x2)] [] M Q) ∧ ((((xs v3.toNatClampNeg) &&& 31)) = 0 → vp_in (v3 + 1) L ∧ vp_in (v3 + 2) L ∧ vp_in (v3 + 3) L ∧ (((xs (v3 + 3).toNatClampNeg) = 0) → vp_in (v3 + 4) L ∧ ∃ q7, a1 = some q7 ∧ mKd M q7 = 1 ∧ EX eL X_LM_propose 0 [some (.inr (some q7)), some (.inl (xs (v3 + 1).toNatClampNeg)), some (.inl (xs (v3 + 2).toNatClampNeg)), some (.inl 0), some (.inl (xs (v3 + 4).toNatClampNeg)), none, none] [] M (fun r11 M10 => ∃ x12, r11 = some (.inl x12) ∧ vp_in (v3 + 1) L ∧ vp_in (v3 + 2) L ∧ vp_in (v3 + 3) L ∧ (((xs (v3 + 3).toNatClampNeg) = 0) → vp_in (v3 + 4) L ∧ ∃ q17, a2 = some q17 ∧ mKd M10 q17 = 11 ∧ EX eL X_Md_propose 0 [some (.inr (some q17)), some (.inl (xs (v3 + 1).toNatClampNeg)), some (.inl (xs (v3 + 2).toNatClampNeg)), some (.inl 0), some (.inl (xs (v3 + 4).toNatClampNeg)), none, none, none] [] M10 (fun r21 M20 => ∃ x22, r21 = some (.inl x22) ∧ ((x12 = x22) → ∀ x23, x23 = v3 + Int32.ofInt 5 → EX eL (X_Law_law bS L xs) 28 [some (.inr (some bS)), some (.inr a1), some (.inr a2), some (.inl x23)] [] M20 Q) ∧ ((¬ x12 = x22) → Q (some (.inl 0)) M20))) ∧ ((¬ (xs (v3 + 3).toNatClampNeg) = 0) → vp_in (v3 + 4) L ∧ ∃ q25, a2 = some q25 ∧ mKd M10 q25 = 11 ∧ EX eL X_Md_propose 0 [some (.inr (some q25)), some (.inl (xs (v3 + 1).toNatClampNeg)), some (.inl (xs (v3 + 2).toNatClampNeg)), some (.inl 1), some (.inl (xs (v3 + 4).toNatClampNeg)), none, none, none] [] M10 (fun r29 M28 => ∃ x30, r29 = some (.inl x30) ∧ ((x12 = x30) → ∀ x31, x31 = v3 + Int32.ofInt 5 → EX eL (X_Law_law bS L xs) 28 [some (.inr (some bS)), some (.inr a1), some (.inr a2), some (.inl x31)] [] M28 Q) ∧ ((¬ x12 = x30) → Q (some (.inl 0)) M28))))) ∧ ((¬ (xs (v3 + 3).toNatClampNeg) = 0) → vp_in (v3 + 4) L ∧ ∃ q33, a1 = some q33 ∧ mKd M q33 = 1 ∧ EX eL X_LM_propose 0 [some (.inr (some q33)), some (.inl (xs (v3 + 1).toNatClampNeg)), some (.inl (xs (v3 + 2).toNatClampNeg)), some (.inl 1), some (.inl (xs (v3 + 4).toNatClampNeg)), none, none] [] M (fun r37 M36 => ∃ x38, r37 = some (.inl x38) ∧ vp_in (v3 + 1) L ∧ vp_in (v3 + 2) L ∧ vp_in (v3 + 3) L ∧ (((xs (v3 + 3).toNatClampNeg) = 0) → vp_in (v3 + 4) L ∧ ∃ q43, a2 = some q43 ∧ mKd M36 q43 = 11 ∧ EX eL X_Md_propose 0 [some (.inr (some q43)), some (.inl (xs (v3 + 1).toNatClampNeg)), some (.inl (xs (v3 + 2).toNatClampNeg)), some (.inl 0), some (.inl (xs (v3 + 4).toNatClampNeg)), none, none, none] [] M36 (fun r47 M46 => ∃ x48, r47 = some (.inl x48) ∧ ((x38 = x48) → ∀ x49, x49 = v3 + Int32.ofInt 5 → EX eL (X_Law_law bS L xs) 28 [some (.inr (some bS)), some (.inr a1), some (.inr a2), some (.inl x49)] [] M46 Q) ∧ ((¬ x38 = x48) → Q (some (.inl 0)) M46))) ∧ ((¬ (xs (v3 + 3).toNatClampNeg) = 0) → vp_in (v3 + 4) L ∧ ∃ q51, a2 = some q51 ∧ mKd M36 q51 = 11 ∧ EX eL X_Md_propose 0 [some (.inr (some q51)), some (.inl (xs (v3 + 1).toNatClampNeg)), some (.inl (xs (v3 + 2).toNatClampNeg)), some (.inl 1), some (.inl (xs (v3 + 4).toNatClampNeg)), none, none, none] [] M36 (fun r55 M54 => ∃ x56, r55 = some (.inl x56) ∧ ((x38 = x56) → ∀ x57, x57 = v3 + Int32.ofInt 5 → EX eL (X_Law_law bS L xs) 28 [some (.inr (some bS)), some (.inr a1), some (.inr a2), some (.inl x57)] [] M54 Q) ∧ ((¬ x38 = x56) → Q (some (.inl 0)) M54)))))) ∧ ((((xs v3.toNatClampNeg) &&& 31)) = 1 → vp_in (v3 + 1) L ∧ vp_in (v3 + 2) L ∧ ∃ q60, a1 = some q60 ∧ mKd M q60 = 1 ∧ EX eL X_LM_prepare 0 [some (.inr (some q60)), some (.inl (xs (v3 + 1).toNatClampNeg)), some (.inl (xs (v3 + 2).toNatClampNeg)), none, none] [] M (fun r64 M63 => ∃ x65, r64 = some (.inl x65) ∧ vp_in (v3 + 1) L ∧ vp_in (v3 + 2) L ∧ ∃ q68, a2 = some q68 ∧ mKd M63 q68 = 11 ∧ EX eL X_Md_prepare 0 [some (.inr (some q68)), some (.inl (xs (v3 + 1).toNatClampNeg)), some (.inl (xs (v3 + 2).toNatClampNeg)), none, none] [] M63 (fun r72 M71 => ∃ x73, r72 = some (.inl x73) ∧ ((x65 = x73) → ∀ x74, x74 = v3 + Int32.ofInt 5 → EX eL (X_Law_law bS L xs) 28 [some (.inr (some bS)), some (.inr a1), some (.inr a2), some (.inl x74)] [] M71 Q) ∧ ((¬ x65 = x73) → Q (some (.inl 0)) M71)))) ∧ ((((xs v3.toNatClampNeg) &&& 31)) = 2 → vp_in (v3 + 1) L ∧ ∃ q76, a1 = some q76 ∧ mKd M q76 = 1 ∧ EX eL X_LM_deliver 0 [some (.inr (some q76)), some (.inl (xs (v3 + 1).toNatClampNeg)), none] [] M (fun r80 M79 => ∃ x81, r80 = some (.inl x81) ∧ vp_in (v3 + 1) L ∧ ∃ q83, a2 = some q83 ∧ mKd M79 q83 = 11 ∧ EX eL X_Md_deliver 0 [some (.inr (some q83)), some (.inl (xs (v3 + 1).toNatClampNeg)), none] [] M79 (fun r87 M86 => ∃ x88, r87 = some (.inl x88) ∧ ((x81 = x88) → ∀ x89, x89 = v3 + Int32.ofInt 5 → EX eL (X_Law_law bS L xs) 28 [some (.inr (some bS)), some (.inr a1), some (.inr a2), some (.inl x89)] [] M86 Q) ∧ ((¬ x81 = x88) → Q (some (.inl 0)) M86)))) ∧ ((((xs v3.toNatClampNeg) &&& 31)) = 3 → vp_in (v3 + 1) L ∧ ∃ q91, a1 = some q91 ∧ mKd M q91 = 1 ∧ EX eL X_LM_lose 0 [some (.inr (some q91)), some (.inl (xs (v3 + 1).toNatClampNeg))] [] M (fun r95 M94 => ∃ x96, r95 = some (.inl x96) ∧ vp_in (v3 + 1) L ∧ ∃ q98, a2 = some q98 ∧ mKd M94 q98 = 11 ∧ EX eL X_Md_lose 0 [some (.inr (some q98)), some (.inl (xs (v3 + 1).toNatClampNeg))] [] M94 (fun r102 M101 => ∃ x103, r102 = some (.inl x103) ∧ ((x96 = x103) → ∀ x104, x104 = v3 + Int32.ofInt 5 → EX eL (X_Law_law bS L xs) 28 [some (.inr (some bS)), some (.inr a1), some (.inr a2), some (.inl x104)] [] M101 Q) ∧ ((¬ x96 = x103) → Q (some (.inl 0)) M101)))) ∧ ((((xs v3.toNatClampNeg) &&& 31)) = 4 → vp_in (v3 + 1) L ∧ ∃ q106, a1 = some q106 ∧ mKd M q106 = 1 ∧ EX eL X_LM_crash 0 [some (.inr (some q106)), some (.inl (xs (v3 + 1).toNatClampNeg)), none] [] M (fun r110 M109 => ∃ x111, r110 = some (.inl x111) ∧ vp_in (v3 + 1) L ∧ ∃ q113, a2 = some q113 ∧ mKd M109 q113 = 11 ∧ EX eL X_Md_crash 0 [some (.inr (some q113)), some (.inl (xs (v3 + 1).toNatClampNeg)), none, none] [] M109 (fun r117 M116 => ∃ x118, r117 = some (.inl x118) ∧ ((x111 = x118) → ∀ x119, x119 = v3 + Int32.ofInt 5 → EX eL (X_Law_law bS L xs) 28 [some (.inr (some bS)), some (.inr a1), some (.inr a2), some (.inl x119)] [] M116 Q) ∧ ((¬ x111 = x118) → Q (some (.inl 0)) M116)))) ∧ ((((xs v3.toNatClampNeg) &&& 31)) = 5 → vp_in (v3 + 1) L ∧ ∃ q121, a1 = some q121 ∧ mKd M q121 = 1 ∧ EX eL X_LM_execute 0 [some (.inr (some q121)), some (.inl (xs (v3 + 1).toNatClampNeg)), none] [] M (fun r125 M124 => ∃ x126, r125 = some (.inl x126) ∧ vp_in (v3 + 1) L ∧ ∃ q128, a2 = some q128 ∧ mKd M124 q128 = 11 ∧ EX eL X_Md_execute 0 [some (.inr (some q128)), some (.inl (xs (v3 + 1).toNatClampNeg)), none, none, none, none, none, none] [] M124 (fun r132 M131 => ∃ x133, r132 = some (.inl x133) ∧ ((x126 = x133) → ∀ x134, x134 = v3 + Int32.ofInt 5 → EX eL (X_Law_law bS L xs) 28 [some (.inr (some bS)), some (.inr a1), some (.inr a2), some (.inl x134)] [] M131 Q) ∧ ((¬ x126 = x133) → Q (some (.inl 0)) M131)))) ∧ ((((xs v3.toNatClampNeg) &&& 31)) = 6 → ∃ q135, a1 = some q135 ∧ mKd M q135 = 1 ∧ EX eL X_LM_waiting 0 [some (.inr (some q135))] [] M (fun r139 M138 => ∃ x140, r139 = some (.inl x140) ∧ ∃ q141, a2 = some q141 ∧ mKd M138 q141 = 11 ∧ EX eL X_Md_waiting 0 [some (.inr (some q141))] [] M138 (fun r145 M144 => ∃ x146, r145 = some (.inl x146) ∧ ((x140 = x146) → ∀ x147, x147 = v3 + Int32.ofInt 5 → EX eL (X_Law_law bS L xs) 28 [some (.inr (some bS)), some (.inr a1), some (.inr a2), some (.inl x147)] [] M144 Q) ∧ ((¬ x140 = x146) → Q (some (.inl 0)) M144)))) ∧ ((((xs v3.toNatClampNeg) &&& 31)) = 7 → vp_in (v3 + 1) L ∧ ∃ q149, a1 = some q149 ∧ mKd M q149 = 1 ∧ EX eL X_LM_message 0 [some (.inr (some q149)), some (.inl (xs (v3 + 1).toNatClampNeg)), none] [] M (fun r153 M152 => ∃ x154, r153 = some (.inl x154) ∧ vp_in (v3 + 1) L ∧ ∃ q156, a2 = some q156 ∧ mKd M152 q156 = 11 ∧ EX eL X_Md_message 0 [some (.inr (some q156)), some (.inl (xs (v3 + 1).toNatClampNeg)), none] [] M152 (fun r160 M159 => ∃ x161, r160 = some (.inl x161) ∧ ((x154 = x161) → ∀ x162, x162 = v3 + Int32.ofInt 5 → EX eL (X_Law_law bS L xs) 28 [some (.inr (some bS)), some (.inr a1), some (.inr a2), some (.inl x162)] [] M159 Q) ∧ ((¬ x154 = x161) → Q (some (.inl 0)) M159)))) ∧ ((((xs v3.toNatClampNeg) &&& 31)) = 8 → ∃ q163, a1 = some q163 ∧ mKd M q163 = 1 ∧ EX eL X_LM_lost 0 [some (.inr (some q163))] [] M (fun r167 M166 => ∃ x168, r167 = some (.inl x168) ∧ ∃ q169, a2 = some q169 ∧ mKd M166 q169 = 11 ∧ EX eL X_Md_lost 0 [some (.inr (some q169))] [] M166 (fun r173 M172 => ∃ x174, r173 = some (.inl x174) ∧ ((x168 = x174) → ∀ x175, x175 = v3 + Int32.ofInt 5 → EX eL (X_Law_law bS L xs) 28 [some (.inr (some bS)), some (.inr a1), some (.inr a2), some (.inl x175)] [] M172 Q) ∧ ((¬ x168 = x174) → Q (some (.inl 0)) M172)))) ∧ ((((xs v3.toNatClampNeg) &&& 31)) = 9 → vp_in (v3 + 1) L ∧ vp_in (v3 + 2) L ∧ ∃ q178, a1 = some q178 ∧ mKd M q178 = 1 ∧ EX eL X_LM_state 0 [some (.inr (some q178)), some (.inl (xs (v3 + 1).toNatClampNeg)), some (.inl (xs (v3 + 2).toNatClampNeg)), none] [] M (fun r182 M181 => ∃ x183, r182 = some (.inl x183) ∧ vp_in (v3 + 1) L ∧ vp_in (v3 + 2) L ∧ ∃ q186, a2 = some q186 ∧ mKd M181 q186 = 11 ∧ EX eL X_Md_state 0 [some (.inr (some q186)), some (.inl (xs (v3 + 1).toNatClampNeg)), some (.inl (xs (v3 + 2).toNatClampNeg))] [] M181 (fun r190 M189 => ∃ x191, r190 = some (.inl x191) ∧ ((x183 = x191) → ∀ x192, x192 = v3 + Int32.ofInt 5 → EX eL (X_Law_law bS L xs) 28 [some (.inr (some bS)), some (.inr a1), some (.inr a2), some (.inl x192)] [] M189 Q) ∧ ((¬ x183 = x191) → Q (some (.inl 0)) M189)))) ∧ ((((xs v3.toNatClampNeg) &&& 31)) = 10 → vp_in (v3 + 1) L ∧ vp_in (v3 + 2) L ∧ ∃ q195, a1 = some q195 ∧ mKd M q195 = 1 ∧ EX eL X_LM_command 0 [some (.inr (some q195)), some (.inl (xs (v3 + 1).toNatClampNeg)), some (.inl (xs (v3 + 2).toNatClampNeg)), none] [] M (fun r199 M198 => ∃ x200, r199 = some (.inl x200) ∧ vp_in (v3 + 1) L ∧ vp_in (v3 + 2) L ∧ ∃ q203, a2 = some q203 ∧ mKd M198 q203 = 11 ∧ EX eL X_Md_command 0 [some (.inr (some q203)), some (.inl (xs (v3 + 1).toNatClampNeg)), some (.inl (xs (v3 + 2).toNatClampNeg))] [] M198 (fun r207 M206 => ∃ x208, r207 = some (.inl x208) ∧ ((x200 = x208) → ∀ x209, x209 = v3 + Int32.ofInt 5 → EX eL (X_Law_law bS L xs) 28 [some (.inr (some bS)), some (.inr a1), some (.inr a2), some (.inl x209)] [] M206 Q) ∧ ((¬ x200 = x208) → Q (some (.inl 0)) M206)))) ∧ ((((xs v3.toNatClampNeg) &&& 31)) = 11 → vp_in (v3 + 1) L ∧ vp_in (v3 + 2) L ∧ ∃ q212, a1 = some q212 ∧ mKd M q212 = 1 ∧ EX eL X_LM_seq 0 [some (.inr (some q212)), some (.inl (xs (v3 + 1).toNatClampNeg)), some (.inl (xs (v3 + 2).toNatClampNeg)), none] [] M (fun r216 M215 => ∃ x217, r216 = some (.inl x217) ∧ vp_in (v3 + 1) L ∧ vp_in (v3 + 2) L ∧ ∃ q220, a2 = some q220 ∧ mKd M215 q220 = 11 ∧ EX eL X_Md_seq 0 [some (.inr (some q220)), some (.inl (xs (v3 + 1).toNatClampNeg)), some (.inl (xs (v3 + 2).toNatClampNeg))] [] M215 (fun r224 M223 => ∃ x225, r224 = some (.inl x225) ∧ ((x217 = x225) → ∀ x226, x226 = v3 + Int32.ofInt 5 → EX eL (X_Law_law bS L xs) 28 [some (.inr (some bS)), some (.inr a1), some (.inr a2), some (.inl x226)] [] M223 Q) ∧ ((¬ x217 = x225) → Q (some (.inl 0)) M223)))) ∧ ((((xs v3.toNatClampNeg) &&& 31)) = 12 → vp_in (v3 + 1) L ∧ vp_in (v3 + 2) L ∧ ∃ q229, a1 = some q229 ∧ mKd M q229 = 1 ∧ EX eL X_LM_deps 0 [some (.inr (some q229)), some (.inl (xs (v3 + 1).toNatClampNeg)), some (.inl (xs (v3 + 2).toNatClampNeg)), none] [] M (fun r233 M232 => ∃ x234, r233 = some (.inl x234) ∧ vp_in (v3 + 1) L ∧ vp_in (v3 + 2) L ∧ ∃ q237, a2 = some q237 ∧ mKd M232 q237 = 11 ∧ EX eL X_Md_deps 0 [some (.inr (some q237)), some (.inl (xs (v3 + 1).toNatClampNeg)), some (.inl (xs (v3 + 2).toNatClampNeg))] [] M232 (fun r241 M240 => ∃ x242, r241 = some (.inl x242) ∧ ((x234 = x242) → ∀ x243, x243 = v3 + Int32.ofInt 5 → EX eL (X_Law_law bS L xs) 28 [some (.inr (some bS)), some (.inr a1), some (.inr a2), some (.inl x243)] [] M240 Q) ∧ ((¬ x234 = x242) → Q (some (.inl 0)) M240)))) ∧ ((((xs v3.toNatClampNeg) &&& 31)) = 13 → vp_in (v3 + 1) L ∧ vp_in (v3 + 2) L ∧ ∃ q246, a1 = some q246 ∧ mKd M q246 = 1 ∧ EX eL X_LM_promised 0 [some (.inr (some q246)), some (.inl (xs (v3 + 1).toNatClampNeg)), some (.inl (xs (v3 + 2).toNatClampNeg)), none] [] M (fun r250 M249 => ∃ x251, r250 = some (.inl x251) ∧ vp_in (v3 + 1) L ∧ vp_in (v3 + 2) L ∧ ∃ q254, a2 = some q254 ∧ mKd M249 q254 = 11 ∧ EX eL X_Md_promised 0 [some (.inr (some q254)), some (.inl (xs (v3 + 1).toNatClampNeg)), some (.inl (xs (v3 + 2).toNatClampNeg))] [] M249 (fun r258 M257 => ∃ x259, r258 = some (.inl x259) ∧ ((x251 = x259) → ∀ x260, x260 = v3 + Int32.ofInt 5 → EX eL (X_Law_law bS L xs) 28 [some (.inr (some bS)), some (.inr a1), some (.inr a2), some (.inl x260)] [] M257 Q) ∧ ((¬ x251 = x259) → Q (some (.inl 0)) M257)))) ∧ ((((xs v3.toNatClampNeg) &&& 31)) = 14 → vp_in (v3 + 1) L ∧ vp_in (v3 + 2) L ∧ ∃ q263, a1 = some q263 ∧ mKd M q263 = 1 ∧ EX eL X_LM_result 0 [some (.inr (some q263)), some (.inl (xs (v3 + 1).toNatClampNeg)), some (.inl (xs (v3 + 2).toNatClampNeg)), none] [] M (fun r267 M266 => ∃ x268, r267 = some (.inl x268) ∧ vp_in (v3 + 1) L ∧ vp_in (v3 + 2) L ∧ ∃ q271, a2 = some q271 ∧ mKd M266 q271 = 11 ∧ EX eL X_Md_result 0 [some (.inr (some q271)), some (.inl (xs (v3 + 1).toNatClampNeg)), some (.inl (xs (v3 + 2).toNatClampNeg))] [] M266 (fun r275 M274 => ∃ x276, r275 = some (.inl x276) ∧ ((x268 = x276) → ∀ x277, x277 = v3 + Int32.ofInt 5 → EX eL (X_Law_law bS L xs) 28 [some (.inr (some bS)), some (.inr a1), some (.inr a2), some (.inl x277)] [] M274 Q) ∧ ((¬ x268 = x276) → Q (some (.inl 0)) M274)))) ∧ ((((xs v3.toNatClampNeg) &&& 31)) = 15 → vp_in (v3 + 1) L ∧ vp_in (v3 + 2) L ∧ ∃ q280, a1 = some q280 ∧ mKd M q280 = 1 ∧ EX eL X_LM_place 0 [some (.inr (some q280)), some (.inl (xs (v3 + 1).toNatClampNeg)), some (.inl (xs (v3 + 2).toNatClampNeg)), none] [] M (fun r284 M283 => ∃ x285, r284 = some (.inl x285) ∧ vp_in (v3 + 1) L ∧ vp_in (v3 + 2) L ∧ ∃ q288, a2 = some q288 ∧ mKd M283 q288 = 11 ∧ EX eL X_Md_place 0 [some (.inr (some q288)), some (.inl (xs (v3 + 1).toNatClampNeg)), some (.inl (xs (v3 + 2).toNatClampNeg))] [] M283 (fun r292 M291 => ∃ x293, r292 = some (.inl x293) ∧ ((x285 = x293) → ∀ x294, x294 = v3 + Int32.ofInt 5 → EX eL (X_Law_law bS L xs) 28 [some (.inr (some bS)), some (.inr a1), some (.inr a2), some (.inl x294)] [] M291 Q) ∧ ((¬ x285 = x293) → Q (some (.inl 0)) M291)))) ∧ ((((xs v3.toNatClampNeg) &&& 31)) = 16 → vp_in (v3 + 1) L ∧ vp_in (v3 + 2) L ∧ ∃ q297, a1 = some q297 ∧ mKd M q297 = 1 ∧ EX eL X_LM_value 0 [some (.inr (some q297)), some (.inl (xs (v3 + 1).toNatClampNeg)), some (.inl (xs (v3 + 2).toNatClampNeg))] [] M (fun r301 M300 => ∃ x302, r301 = some (.inl x302) ∧ vp_in (v3 + 1) L ∧ vp_in (v3 + 2) L ∧ ∃ q305, a2 = some q305 ∧ mKd M300 q305 = 11 ∧ EX eL X_Md_value 0 [some (.inr (some q305)), some (.inl (xs (v3 + 1).toNatClampNeg)), some (.inl (xs (v3 + 2).toNatClampNeg))] [] M300 (fun r309 M308 => ∃ x310, r309 = some (.inl x310) ∧ ((x302 = x310) → ∀ x311, x311 = v3 + Int32.ofInt 5 → EX eL (X_Law_law bS L xs) 28 [some (.inr (some bS)), some (.inr a1), some (.inr a2), some (.inl x311)] [] M308 Q) ∧ ((¬ x302 = x310) → Q (some (.inl 0)) M308))))))) : EX eL (X_Law_law bS L xs) 28 [some (.inr (some bS)), some (.inr a1), some (.inr a2), some (.inl v3)] [] M Q := by
  refine ex_iload_n (pc := 28) d_Law_law_28 rfl ?_
  refine ex_aload_n (pc := 29) d_Law_law_29 rfl ?_
  refine ex_slen (X := (X_Law_law bS L xs)) (pc := 30) d_Law_law_30 rfl rfl ?_
  refine ex_iconst (w := 5) (pc := 31) d_Law_law_31 (by decide) ?_
  refine ex_isub (pc := 32) d_Law_law_32 ?_
  refine ex_icmp_gt (tgt := 637) (pc := 33) d_Law_law_33 (by decide) (fun g => ?_) (fun g => ?_)
  · replace h := h.1 g
    refine ex_iconst (w := 1) (pc := 637) d_Law_law_637 (by decide) ?_
    exact ex_ret_z (pc := 638) d_Law_law_638 rfl (Or.inr rfl) h
  · replace h := h.2 g
    refine ex_aload_n (pc := 36) d_Law_law_36 rfl ?_
    refine ex_iload_n (pc := 37) d_Law_law_37 rfl ?_
    obtain ⟨b1, h⟩ := h
    refine ex_sald (X := (X_Law_law bS L xs)) (pc := 38) d_Law_law_38 rfl rfl b1 ?_
    refine ex_bipush (w := 31) (pc := 39) d_Law_law_39 (by decide) ?_
    refine ex_iand (pc := 41) d_Law_law_41 ?_
    refine ex_tab (lo := 0) (hi := 16) (pc := 42) d_Law_law_42 (fun g => ?_) (fun g1 g2 => ?_)
    · replace h := h.1 g
      refine ex_tabOut (tgt := 631) (pc := 42) d_Law_law_42 g (by decide) ?_
      refine ex_iinc (ls2 := [_, _, _, _]) (pc := 631) d_Law_law_631 rfl rfl ?_
      replace h := h _ rfl
      refine ex_goto (tgt := 28) (pc := 634) d_Law_law_634 (by decide) ?_
      exact h
    · rcases me_cases17 g1 g2 with g | g | g | g | g | g | g | g | g | g | g | g | g | g | g | g | g
      · replace h := h.2.1 g
        refine ex_tabAt (c := 0) (tgt := 124) (pc := 42) d_Law_law_42 g (by decide) (by decide) rfl (by decide) ?_
        refine ex_aload_n (pc := 124) d_Law_law_124 rfl ?_
        refine ex_aload_n (pc := 125) d_Law_law_125 rfl ?_
        refine ex_iload_n (pc := 126) d_Law_law_126 rfl ?_
        refine ex_iconst (w := 1) (pc := 127) d_Law_law_127 (by decide) ?_
        refine ex_iadd (pc := 128) d_Law_law_128 ?_
        obtain ⟨b3, h⟩ := h
        refine ex_sald (X := (X_Law_law bS L xs)) (pc := 129) d_Law_law_129 rfl rfl b3 ?_
        refine ex_aload_n (pc := 130) d_Law_law_130 rfl ?_
        refine ex_iload_n (pc := 131) d_Law_law_131 rfl ?_
        refine ex_iconst (w := 2) (pc := 132) d_Law_law_132 (by decide) ?_
        refine ex_iadd (pc := 133) d_Law_law_133 ?_
        obtain ⟨b4, h⟩ := h
        refine ex_sald (X := (X_Law_law bS L xs)) (pc := 134) d_Law_law_134 rfl rfl b4 ?_
        refine ex_aload_n (pc := 135) d_Law_law_135 rfl ?_
        refine ex_iload_n (pc := 136) d_Law_law_136 rfl ?_
        refine ex_iconst (w := 3) (pc := 137) d_Law_law_137 (by decide) ?_
        refine ex_iadd (pc := 138) d_Law_law_138 ?_
        obtain ⟨b5, h⟩ := h
        refine ex_sald (X := (X_Law_law bS L xs)) (pc := 139) d_Law_law_139 rfl rfl b5 ?_
        refine ex_if_eq (tgt := 147) (pc := 140) d_Law_law_140 (by decide) (fun g => ?_) (fun g => ?_)
        · replace h := h.1 g
          refine ex_iconst (w := 0) (pc := 147) d_Law_law_147 (by decide) ?_
          refine ex_aload_n (pc := 148) d_Law_law_148 rfl ?_
          refine ex_iload_n (pc := 149) d_Law_law_149 rfl ?_
          refine ex_iconst (w := 4) (pc := 150) d_Law_law_150 (by decide) ?_
          refine ex_iadd (pc := 151) d_Law_law_151 ?_
          obtain ⟨b6, h⟩ := h
          refine ex_sald (X := (X_Law_law bS L xs)) (pc := 152) d_Law_law_152 rfl rfl b6 ?_
          obtain ⟨q7, e8, h⟩ := h
          obtain ⟨k9, h⟩ := h
          refine ex_cVI (as := [_, _, _, _]) (st := []) (pc := 153) e8 rfl k9 rfl rfl rfl (Nat.le_of_ble_eq_true rfl) (EX.mono h fun r11 M10 h => ?_)
          obtain ⟨x12, rfl, h⟩ := h
          refine ⟨_, rfl, ?_⟩
          refine ex_aload_n (pc := 156) d_Law_law_156 rfl ?_
          refine ex_aload_n (pc := 157) d_Law_law_157 rfl ?_
          refine ex_iload_n (pc := 158) d_Law_law_158 rfl ?_
          refine ex_iconst (w := 1) (pc := 159) d_Law_law_159 (by decide) ?_
          refine ex_iadd (pc := 160) d_Law_law_160 ?_
          obtain ⟨b13, h⟩ := h
          refine ex_sald (X := (X_Law_law bS L xs)) (pc := 161) d_Law_law_161 rfl rfl b13 ?_
          refine ex_aload_n (pc := 162) d_Law_law_162 rfl ?_
          refine ex_iload_n (pc := 163) d_Law_law_163 rfl ?_
          refine ex_iconst (w := 2) (pc := 164) d_Law_law_164 (by decide) ?_
          refine ex_iadd (pc := 165) d_Law_law_165 ?_
          obtain ⟨b14, h⟩ := h
          refine ex_sald (X := (X_Law_law bS L xs)) (pc := 166) d_Law_law_166 rfl rfl b14 ?_
          refine ex_aload_n (pc := 167) d_Law_law_167 rfl ?_
          refine ex_iload_n (pc := 168) d_Law_law_168 rfl ?_
          refine ex_iconst (w := 3) (pc := 169) d_Law_law_169 (by decide) ?_
          refine ex_iadd (pc := 170) d_Law_law_170 ?_
          obtain ⟨b15, h⟩ := h
          refine ex_sald (X := (X_Law_law bS L xs)) (pc := 171) d_Law_law_171 rfl rfl b15 ?_
          refine ex_if_eq (tgt := 179) (pc := 172) d_Law_law_172 (by decide) (fun g => ?_) (fun g => ?_)
          · replace h := h.1 g
            refine ex_iconst (w := 0) (pc := 179) d_Law_law_179 (by decide) ?_
            refine ex_aload_n (pc := 180) d_Law_law_180 rfl ?_
            refine ex_iload_n (pc := 181) d_Law_law_181 rfl ?_
            refine ex_iconst (w := 4) (pc := 182) d_Law_law_182 (by decide) ?_
            refine ex_iadd (pc := 183) d_Law_law_183 ?_
            obtain ⟨b16, h⟩ := h
            refine ex_sald (X := (X_Law_law bS L xs)) (pc := 184) d_Law_law_184 rfl rfl b16 ?_
            obtain ⟨q17, e18, h⟩ := h
            obtain ⟨k19, h⟩ := h
            refine ex_cVI (as := [_, _, _, _]) (st := [_]) (pc := 185) e18 rfl k19 rfl rfl rfl (Nat.le_of_ble_eq_true rfl) (EX.mono h fun r21 M20 h => ?_)
            obtain ⟨x22, rfl, h⟩ := h
            refine ⟨_, rfl, ?_⟩
            refine ex_icmp_eq (tgt := 631) (pc := 188) d_Law_law_188 (by decide) (fun g => ?_) (fun g => ?_)
            · replace h := h.1 g
              refine ex_iinc (ls2 := [_, _, _, _]) (pc := 631) d_Law_law_631 rfl rfl ?_
              replace h := h _ rfl
              refine ex_goto (tgt := 28) (pc := 634) d_Law_law_634 (by decide) ?_
              exact h
            · replace h := h.2 g
              refine ex_iconst (w := 0) (pc := 191) d_Law_law_191 (by decide) ?_
              exact ex_ret_z (pc := 192) d_Law_law_192 rfl (Or.inl rfl) h
          · replace h := h.2 g
            refine ex_iconst (w := 1) (pc := 175) d_Law_law_175 (by decide) ?_
            refine ex_goto (tgt := 180) (pc := 176) d_Law_law_176 (by decide) ?_
            refine ex_aload_n (pc := 180) d_Law_law_180 rfl ?_
            refine ex_iload_n (pc := 181) d_Law_law_181 rfl ?_
            refine ex_iconst (w := 4) (pc := 182) d_Law_law_182 (by decide) ?_
            refine ex_iadd (pc := 183) d_Law_law_183 ?_
            obtain ⟨b24, h⟩ := h
            refine ex_sald (X := (X_Law_law bS L xs)) (pc := 184) d_Law_law_184 rfl rfl b24 ?_
            obtain ⟨q25, e26, h⟩ := h
            obtain ⟨k27, h⟩ := h
            refine ex_cVI (as := [_, _, _, _]) (st := [_]) (pc := 185) e26 rfl k27 rfl rfl rfl (Nat.le_of_ble_eq_true rfl) (EX.mono h fun r29 M28 h => ?_)
            obtain ⟨x30, rfl, h⟩ := h
            refine ⟨_, rfl, ?_⟩
            refine ex_icmp_eq (tgt := 631) (pc := 188) d_Law_law_188 (by decide) (fun g => ?_) (fun g => ?_)
            · replace h := h.1 g
              refine ex_iinc (ls2 := [_, _, _, _]) (pc := 631) d_Law_law_631 rfl rfl ?_
              replace h := h _ rfl
              refine ex_goto (tgt := 28) (pc := 634) d_Law_law_634 (by decide) ?_
              exact h
            · replace h := h.2 g
              refine ex_iconst (w := 0) (pc := 191) d_Law_law_191 (by decide) ?_
              exact ex_ret_z (pc := 192) d_Law_law_192 rfl (Or.inl rfl) h
        · replace h := h.2 g
          refine ex_iconst (w := 1) (pc := 143) d_Law_law_143 (by decide) ?_
          refine ex_goto (tgt := 148) (pc := 144) d_Law_law_144 (by decide) ?_
          refine ex_aload_n (pc := 148) d_Law_law_148 rfl ?_
          refine ex_iload_n (pc := 149) d_Law_law_149 rfl ?_
          refine ex_iconst (w := 4) (pc := 150) d_Law_law_150 (by decide) ?_
          refine ex_iadd (pc := 151) d_Law_law_151 ?_
          obtain ⟨b32, h⟩ := h
          refine ex_sald (X := (X_Law_law bS L xs)) (pc := 152) d_Law_law_152 rfl rfl b32 ?_
          obtain ⟨q33, e34, h⟩ := h
          obtain ⟨k35, h⟩ := h
          refine ex_cVI (as := [_, _, _, _]) (st := []) (pc := 153) e34 rfl k35 rfl rfl rfl (Nat.le_of_ble_eq_true rfl) (EX.mono h fun r37 M36 h => ?_)
          obtain ⟨x38, rfl, h⟩ := h
          refine ⟨_, rfl, ?_⟩
          refine ex_aload_n (pc := 156) d_Law_law_156 rfl ?_
          refine ex_aload_n (pc := 157) d_Law_law_157 rfl ?_
          refine ex_iload_n (pc := 158) d_Law_law_158 rfl ?_
          refine ex_iconst (w := 1) (pc := 159) d_Law_law_159 (by decide) ?_
          refine ex_iadd (pc := 160) d_Law_law_160 ?_
          obtain ⟨b39, h⟩ := h
          refine ex_sald (X := (X_Law_law bS L xs)) (pc := 161) d_Law_law_161 rfl rfl b39 ?_
          refine ex_aload_n (pc := 162) d_Law_law_162 rfl ?_
          refine ex_iload_n (pc := 163) d_Law_law_163 rfl ?_
          refine ex_iconst (w := 2) (pc := 164) d_Law_law_164 (by decide) ?_
          refine ex_iadd (pc := 165) d_Law_law_165 ?_
          obtain ⟨b40, h⟩ := h
          refine ex_sald (X := (X_Law_law bS L xs)) (pc := 166) d_Law_law_166 rfl rfl b40 ?_
          refine ex_aload_n (pc := 167) d_Law_law_167 rfl ?_
          refine ex_iload_n (pc := 168) d_Law_law_168 rfl ?_
          refine ex_iconst (w := 3) (pc := 169) d_Law_law_169 (by decide) ?_
          refine ex_iadd (pc := 170) d_Law_law_170 ?_
          obtain ⟨b41, h⟩ := h
          refine ex_sald (X := (X_Law_law bS L xs)) (pc := 171) d_Law_law_171 rfl rfl b41 ?_
          refine ex_if_eq (tgt := 179) (pc := 172) d_Law_law_172 (by decide) (fun g => ?_) (fun g => ?_)
          · replace h := h.1 g
            refine ex_iconst (w := 0) (pc := 179) d_Law_law_179 (by decide) ?_
            refine ex_aload_n (pc := 180) d_Law_law_180 rfl ?_
            refine ex_iload_n (pc := 181) d_Law_law_181 rfl ?_
            refine ex_iconst (w := 4) (pc := 182) d_Law_law_182 (by decide) ?_
            refine ex_iadd (pc := 183) d_Law_law_183 ?_
            obtain ⟨b42, h⟩ := h
            refine ex_sald (X := (X_Law_law bS L xs)) (pc := 184) d_Law_law_184 rfl rfl b42 ?_
            obtain ⟨q43, e44, h⟩ := h
            obtain ⟨k45, h⟩ := h
            refine ex_cVI (as := [_, _, _, _]) (st := [_]) (pc := 185) e44 rfl k45 rfl rfl rfl (Nat.le_of_ble_eq_true rfl) (EX.mono h fun r47 M46 h => ?_)
            obtain ⟨x48, rfl, h⟩ := h
            refine ⟨_, rfl, ?_⟩
            refine ex_icmp_eq (tgt := 631) (pc := 188) d_Law_law_188 (by decide) (fun g => ?_) (fun g => ?_)
            · replace h := h.1 g
              refine ex_iinc (ls2 := [_, _, _, _]) (pc := 631) d_Law_law_631 rfl rfl ?_
              replace h := h _ rfl
              refine ex_goto (tgt := 28) (pc := 634) d_Law_law_634 (by decide) ?_
              exact h
            · replace h := h.2 g
              refine ex_iconst (w := 0) (pc := 191) d_Law_law_191 (by decide) ?_
              exact ex_ret_z (pc := 192) d_Law_law_192 rfl (Or.inl rfl) h
          · replace h := h.2 g
            refine ex_iconst (w := 1) (pc := 175) d_Law_law_175 (by decide) ?_
            refine ex_goto (tgt := 180) (pc := 176) d_Law_law_176 (by decide) ?_
            refine ex_aload_n (pc := 180) d_Law_law_180 rfl ?_
            refine ex_iload_n (pc := 181) d_Law_law_181 rfl ?_
            refine ex_iconst (w := 4) (pc := 182) d_Law_law_182 (by decide) ?_
            refine ex_iadd (pc := 183) d_Law_law_183 ?_
            obtain ⟨b50, h⟩ := h
            refine ex_sald (X := (X_Law_law bS L xs)) (pc := 184) d_Law_law_184 rfl rfl b50 ?_
            obtain ⟨q51, e52, h⟩ := h
            obtain ⟨k53, h⟩ := h
            refine ex_cVI (as := [_, _, _, _]) (st := [_]) (pc := 185) e52 rfl k53 rfl rfl rfl (Nat.le_of_ble_eq_true rfl) (EX.mono h fun r55 M54 h => ?_)
            obtain ⟨x56, rfl, h⟩ := h
            refine ⟨_, rfl, ?_⟩
            refine ex_icmp_eq (tgt := 631) (pc := 188) d_Law_law_188 (by decide) (fun g => ?_) (fun g => ?_)
            · replace h := h.1 g
              refine ex_iinc (ls2 := [_, _, _, _]) (pc := 631) d_Law_law_631 rfl rfl ?_
              replace h := h _ rfl
              refine ex_goto (tgt := 28) (pc := 634) d_Law_law_634 (by decide) ?_
              exact h
            · replace h := h.2 g
              refine ex_iconst (w := 0) (pc := 191) d_Law_law_191 (by decide) ?_
              exact ex_ret_z (pc := 192) d_Law_law_192 rfl (Or.inl rfl) h
      · replace h := h.2.2.1 g
        refine ex_tabAt (c := 1) (tgt := 193) (pc := 42) d_Law_law_42 g (by decide) (by decide) rfl (by decide) ?_
        refine ex_aload_n (pc := 193) d_Law_law_193 rfl ?_
        refine ex_aload_n (pc := 194) d_Law_law_194 rfl ?_
        refine ex_iload_n (pc := 195) d_Law_law_195 rfl ?_
        refine ex_iconst (w := 1) (pc := 196) d_Law_law_196 (by decide) ?_
        refine ex_iadd (pc := 197) d_Law_law_197 ?_
        obtain ⟨b58, h⟩ := h
        refine ex_sald (X := (X_Law_law bS L xs)) (pc := 198) d_Law_law_198 rfl rfl b58 ?_
        refine ex_aload_n (pc := 199) d_Law_law_199 rfl ?_
        refine ex_iload_n (pc := 200) d_Law_law_200 rfl ?_
        refine ex_iconst (w := 2) (pc := 201) d_Law_law_201 (by decide) ?_
        refine ex_iadd (pc := 202) d_Law_law_202 ?_
        obtain ⟨b59, h⟩ := h
        refine ex_sald (X := (X_Law_law bS L xs)) (pc := 203) d_Law_law_203 rfl rfl b59 ?_
        obtain ⟨q60, e61, h⟩ := h
        obtain ⟨k62, h⟩ := h
        refine ex_cVI (as := [_, _]) (st := []) (pc := 204) e61 rfl k62 rfl rfl rfl (Nat.le_of_ble_eq_true rfl) (EX.mono h fun r64 M63 h => ?_)
        obtain ⟨x65, rfl, h⟩ := h
        refine ⟨_, rfl, ?_⟩
        refine ex_aload_n (pc := 207) d_Law_law_207 rfl ?_
        refine ex_aload_n (pc := 208) d_Law_law_208 rfl ?_
        refine ex_iload_n (pc := 209) d_Law_law_209 rfl ?_
        refine ex_iconst (w := 1) (pc := 210) d_Law_law_210 (by decide) ?_
        refine ex_iadd (pc := 211) d_Law_law_211 ?_
        obtain ⟨b66, h⟩ := h
        refine ex_sald (X := (X_Law_law bS L xs)) (pc := 212) d_Law_law_212 rfl rfl b66 ?_
        refine ex_aload_n (pc := 213) d_Law_law_213 rfl ?_
        refine ex_iload_n (pc := 214) d_Law_law_214 rfl ?_
        refine ex_iconst (w := 2) (pc := 215) d_Law_law_215 (by decide) ?_
        refine ex_iadd (pc := 216) d_Law_law_216 ?_
        obtain ⟨b67, h⟩ := h
        refine ex_sald (X := (X_Law_law bS L xs)) (pc := 217) d_Law_law_217 rfl rfl b67 ?_
        obtain ⟨q68, e69, h⟩ := h
        obtain ⟨k70, h⟩ := h
        refine ex_cVI (as := [_, _]) (st := [_]) (pc := 218) e69 rfl k70 rfl rfl rfl (Nat.le_of_ble_eq_true rfl) (EX.mono h fun r72 M71 h => ?_)
        obtain ⟨x73, rfl, h⟩ := h
        refine ⟨_, rfl, ?_⟩
        refine ex_icmp_eq (tgt := 631) (pc := 221) d_Law_law_221 (by decide) (fun g => ?_) (fun g => ?_)
        · replace h := h.1 g
          refine ex_iinc (ls2 := [_, _, _, _]) (pc := 631) d_Law_law_631 rfl rfl ?_
          replace h := h _ rfl
          refine ex_goto (tgt := 28) (pc := 634) d_Law_law_634 (by decide) ?_
          exact h
        · replace h := h.2 g
          refine ex_iconst (w := 0) (pc := 224) d_Law_law_224 (by decide) ?_
          exact ex_ret_z (pc := 225) d_Law_law_225 rfl (Or.inl rfl) h
      · replace h := h.2.2.2.1 g
        refine ex_tabAt (c := 2) (tgt := 226) (pc := 42) d_Law_law_42 g (by decide) (by decide) rfl (by decide) ?_
        refine ex_aload_n (pc := 226) d_Law_law_226 rfl ?_
        refine ex_aload_n (pc := 227) d_Law_law_227 rfl ?_
        refine ex_iload_n (pc := 228) d_Law_law_228 rfl ?_
        refine ex_iconst (w := 1) (pc := 229) d_Law_law_229 (by decide) ?_
        refine ex_iadd (pc := 230) d_Law_law_230 ?_
        obtain ⟨b75, h⟩ := h
        refine ex_sald (X := (X_Law_law bS L xs)) (pc := 231) d_Law_law_231 rfl rfl b75 ?_
        obtain ⟨q76, e77, h⟩ := h
        obtain ⟨k78, h⟩ := h
        refine ex_cVI (as := [_]) (st := []) (pc := 232) e77 rfl k78 rfl rfl rfl (Nat.le_of_ble_eq_true rfl) (EX.mono h fun r80 M79 h => ?_)
        obtain ⟨x81, rfl, h⟩ := h
        refine ⟨_, rfl, ?_⟩
        refine ex_aload_n (pc := 235) d_Law_law_235 rfl ?_
        refine ex_aload_n (pc := 236) d_Law_law_236 rfl ?_
        refine ex_iload_n (pc := 237) d_Law_law_237 rfl ?_
        refine ex_iconst (w := 1) (pc := 238) d_Law_law_238 (by decide) ?_
        refine ex_iadd (pc := 239) d_Law_law_239 ?_
        obtain ⟨b82, h⟩ := h
        refine ex_sald (X := (X_Law_law bS L xs)) (pc := 240) d_Law_law_240 rfl rfl b82 ?_
        obtain ⟨q83, e84, h⟩ := h
        obtain ⟨k85, h⟩ := h
        refine ex_cVI (as := [_]) (st := [_]) (pc := 241) e84 rfl k85 rfl rfl rfl (Nat.le_of_ble_eq_true rfl) (EX.mono h fun r87 M86 h => ?_)
        obtain ⟨x88, rfl, h⟩ := h
        refine ⟨_, rfl, ?_⟩
        refine ex_icmp_eq (tgt := 631) (pc := 244) d_Law_law_244 (by decide) (fun g => ?_) (fun g => ?_)
        · replace h := h.1 g
          refine ex_iinc (ls2 := [_, _, _, _]) (pc := 631) d_Law_law_631 rfl rfl ?_
          replace h := h _ rfl
          refine ex_goto (tgt := 28) (pc := 634) d_Law_law_634 (by decide) ?_
          exact h
        · replace h := h.2 g
          refine ex_iconst (w := 0) (pc := 247) d_Law_law_247 (by decide) ?_
          exact ex_ret_z (pc := 248) d_Law_law_248 rfl (Or.inl rfl) h
      · replace h := h.2.2.2.2.1 g
        refine ex_tabAt (c := 3) (tgt := 249) (pc := 42) d_Law_law_42 g (by decide) (by decide) rfl (by decide) ?_
        refine ex_aload_n (pc := 249) d_Law_law_249 rfl ?_
        refine ex_aload_n (pc := 250) d_Law_law_250 rfl ?_
        refine ex_iload_n (pc := 251) d_Law_law_251 rfl ?_
        refine ex_iconst (w := 1) (pc := 252) d_Law_law_252 (by decide) ?_
        refine ex_iadd (pc := 253) d_Law_law_253 ?_
        obtain ⟨b90, h⟩ := h
        refine ex_sald (X := (X_Law_law bS L xs)) (pc := 254) d_Law_law_254 rfl rfl b90 ?_
        obtain ⟨q91, e92, h⟩ := h
        obtain ⟨k93, h⟩ := h
        refine ex_cVI (as := [_]) (st := []) (pc := 255) e92 rfl k93 rfl rfl rfl (Nat.le_of_ble_eq_true rfl) (EX.mono h fun r95 M94 h => ?_)
        obtain ⟨x96, rfl, h⟩ := h
        refine ⟨_, rfl, ?_⟩
        refine ex_aload_n (pc := 258) d_Law_law_258 rfl ?_
        refine ex_aload_n (pc := 259) d_Law_law_259 rfl ?_
        refine ex_iload_n (pc := 260) d_Law_law_260 rfl ?_
        refine ex_iconst (w := 1) (pc := 261) d_Law_law_261 (by decide) ?_
        refine ex_iadd (pc := 262) d_Law_law_262 ?_
        obtain ⟨b97, h⟩ := h
        refine ex_sald (X := (X_Law_law bS L xs)) (pc := 263) d_Law_law_263 rfl rfl b97 ?_
        obtain ⟨q98, e99, h⟩ := h
        obtain ⟨k100, h⟩ := h
        refine ex_cVI (as := [_]) (st := [_]) (pc := 264) e99 rfl k100 rfl rfl rfl (Nat.le_of_ble_eq_true rfl) (EX.mono h fun r102 M101 h => ?_)
        obtain ⟨x103, rfl, h⟩ := h
        refine ⟨_, rfl, ?_⟩
        refine ex_icmp_eq (tgt := 631) (pc := 267) d_Law_law_267 (by decide) (fun g => ?_) (fun g => ?_)
        · replace h := h.1 g
          refine ex_iinc (ls2 := [_, _, _, _]) (pc := 631) d_Law_law_631 rfl rfl ?_
          replace h := h _ rfl
          refine ex_goto (tgt := 28) (pc := 634) d_Law_law_634 (by decide) ?_
          exact h
        · replace h := h.2 g
          refine ex_iconst (w := 0) (pc := 270) d_Law_law_270 (by decide) ?_
          exact ex_ret_z (pc := 271) d_Law_law_271 rfl (Or.inl rfl) h
      · replace h := h.2.2.2.2.2.1 g
        refine ex_tabAt (c := 4) (tgt := 272) (pc := 42) d_Law_law_42 g (by decide) (by decide) rfl (by decide) ?_
        refine ex_aload_n (pc := 272) d_Law_law_272 rfl ?_
        refine ex_aload_n (pc := 273) d_Law_law_273 rfl ?_
        refine ex_iload_n (pc := 274) d_Law_law_274 rfl ?_
        refine ex_iconst (w := 1) (pc := 275) d_Law_law_275 (by decide) ?_
        refine ex_iadd (pc := 276) d_Law_law_276 ?_
        obtain ⟨b105, h⟩ := h
        refine ex_sald (X := (X_Law_law bS L xs)) (pc := 277) d_Law_law_277 rfl rfl b105 ?_
        obtain ⟨q106, e107, h⟩ := h
        obtain ⟨k108, h⟩ := h
        refine ex_cVI (as := [_]) (st := []) (pc := 278) e107 rfl k108 rfl rfl rfl (Nat.le_of_ble_eq_true rfl) (EX.mono h fun r110 M109 h => ?_)
        obtain ⟨x111, rfl, h⟩ := h
        refine ⟨_, rfl, ?_⟩
        refine ex_aload_n (pc := 281) d_Law_law_281 rfl ?_
        refine ex_aload_n (pc := 282) d_Law_law_282 rfl ?_
        refine ex_iload_n (pc := 283) d_Law_law_283 rfl ?_
        refine ex_iconst (w := 1) (pc := 284) d_Law_law_284 (by decide) ?_
        refine ex_iadd (pc := 285) d_Law_law_285 ?_
        obtain ⟨b112, h⟩ := h
        refine ex_sald (X := (X_Law_law bS L xs)) (pc := 286) d_Law_law_286 rfl rfl b112 ?_
        obtain ⟨q113, e114, h⟩ := h
        obtain ⟨k115, h⟩ := h
        refine ex_cVI (as := [_]) (st := [_]) (pc := 287) e114 rfl k115 rfl rfl rfl (Nat.le_of_ble_eq_true rfl) (EX.mono h fun r117 M116 h => ?_)
        obtain ⟨x118, rfl, h⟩ := h
        refine ⟨_, rfl, ?_⟩
        refine ex_icmp_eq (tgt := 631) (pc := 290) d_Law_law_290 (by decide) (fun g => ?_) (fun g => ?_)
        · replace h := h.1 g
          refine ex_iinc (ls2 := [_, _, _, _]) (pc := 631) d_Law_law_631 rfl rfl ?_
          replace h := h _ rfl
          refine ex_goto (tgt := 28) (pc := 634) d_Law_law_634 (by decide) ?_
          exact h
        · replace h := h.2 g
          refine ex_iconst (w := 0) (pc := 293) d_Law_law_293 (by decide) ?_
          exact ex_ret_z (pc := 294) d_Law_law_294 rfl (Or.inl rfl) h
      · replace h := h.2.2.2.2.2.2.1 g
        refine ex_tabAt (c := 5) (tgt := 295) (pc := 42) d_Law_law_42 g (by decide) (by decide) rfl (by decide) ?_
        refine ex_aload_n (pc := 295) d_Law_law_295 rfl ?_
        refine ex_aload_n (pc := 296) d_Law_law_296 rfl ?_
        refine ex_iload_n (pc := 297) d_Law_law_297 rfl ?_
        refine ex_iconst (w := 1) (pc := 298) d_Law_law_298 (by decide) ?_
        refine ex_iadd (pc := 299) d_Law_law_299 ?_
        obtain ⟨b120, h⟩ := h
        refine ex_sald (X := (X_Law_law bS L xs)) (pc := 300) d_Law_law_300 rfl rfl b120 ?_
        obtain ⟨q121, e122, h⟩ := h
        obtain ⟨k123, h⟩ := h
        refine ex_cVI (as := [_]) (st := []) (pc := 301) e122 rfl k123 rfl rfl rfl (Nat.le_of_ble_eq_true rfl) (EX.mono h fun r125 M124 h => ?_)
        obtain ⟨x126, rfl, h⟩ := h
        refine ⟨_, rfl, ?_⟩
        refine ex_aload_n (pc := 304) d_Law_law_304 rfl ?_
        refine ex_aload_n (pc := 305) d_Law_law_305 rfl ?_
        refine ex_iload_n (pc := 306) d_Law_law_306 rfl ?_
        refine ex_iconst (w := 1) (pc := 307) d_Law_law_307 (by decide) ?_
        refine ex_iadd (pc := 308) d_Law_law_308 ?_
        obtain ⟨b127, h⟩ := h
        refine ex_sald (X := (X_Law_law bS L xs)) (pc := 309) d_Law_law_309 rfl rfl b127 ?_
        obtain ⟨q128, e129, h⟩ := h
        obtain ⟨k130, h⟩ := h
        refine ex_cVI (as := [_]) (st := [_]) (pc := 310) e129 rfl k130 rfl rfl rfl (Nat.le_of_ble_eq_true rfl) (EX.mono h fun r132 M131 h => ?_)
        obtain ⟨x133, rfl, h⟩ := h
        refine ⟨_, rfl, ?_⟩
        refine ex_icmp_eq (tgt := 631) (pc := 313) d_Law_law_313 (by decide) (fun g => ?_) (fun g => ?_)
        · replace h := h.1 g
          refine ex_iinc (ls2 := [_, _, _, _]) (pc := 631) d_Law_law_631 rfl rfl ?_
          replace h := h _ rfl
          refine ex_goto (tgt := 28) (pc := 634) d_Law_law_634 (by decide) ?_
          exact h
        · replace h := h.2 g
          refine ex_iconst (w := 0) (pc := 316) d_Law_law_316 (by decide) ?_
          exact ex_ret_z (pc := 317) d_Law_law_317 rfl (Or.inl rfl) h
      · replace h := h.2.2.2.2.2.2.2.1 g
        refine ex_tabAt (c := 6) (tgt := 318) (pc := 42) d_Law_law_42 g (by decide) (by decide) rfl (by decide) ?_
        refine ex_aload_n (pc := 318) d_Law_law_318 rfl ?_
        obtain ⟨q135, e136, h⟩ := h
        obtain ⟨k137, h⟩ := h
        refine ex_cVI (as := []) (st := []) (pc := 319) e136 rfl k137 rfl rfl rfl (Nat.le_of_ble_eq_true rfl) (EX.mono h fun r139 M138 h => ?_)
        obtain ⟨x140, rfl, h⟩ := h
        refine ⟨_, rfl, ?_⟩
        refine ex_aload_n (pc := 322) d_Law_law_322 rfl ?_
        obtain ⟨q141, e142, h⟩ := h
        obtain ⟨k143, h⟩ := h
        refine ex_cVI (as := []) (st := [_]) (pc := 323) e142 rfl k143 rfl rfl rfl (Nat.le_of_ble_eq_true rfl) (EX.mono h fun r145 M144 h => ?_)
        obtain ⟨x146, rfl, h⟩ := h
        refine ⟨_, rfl, ?_⟩
        refine ex_icmp_eq (tgt := 631) (pc := 326) d_Law_law_326 (by decide) (fun g => ?_) (fun g => ?_)
        · replace h := h.1 g
          refine ex_iinc (ls2 := [_, _, _, _]) (pc := 631) d_Law_law_631 rfl rfl ?_
          replace h := h _ rfl
          refine ex_goto (tgt := 28) (pc := 634) d_Law_law_634 (by decide) ?_
          exact h
        · replace h := h.2 g
          refine ex_iconst (w := 0) (pc := 329) d_Law_law_329 (by decide) ?_
          exact ex_ret_z (pc := 330) d_Law_law_330 rfl (Or.inl rfl) h
      · replace h := h.2.2.2.2.2.2.2.2.1 g
        refine ex_tabAt (c := 7) (tgt := 331) (pc := 42) d_Law_law_42 g (by decide) (by decide) rfl (by decide) ?_
        refine ex_aload_n (pc := 331) d_Law_law_331 rfl ?_
        refine ex_aload_n (pc := 332) d_Law_law_332 rfl ?_
        refine ex_iload_n (pc := 333) d_Law_law_333 rfl ?_
        refine ex_iconst (w := 1) (pc := 334) d_Law_law_334 (by decide) ?_
        refine ex_iadd (pc := 335) d_Law_law_335 ?_
        obtain ⟨b148, h⟩ := h
        refine ex_sald (X := (X_Law_law bS L xs)) (pc := 336) d_Law_law_336 rfl rfl b148 ?_
        obtain ⟨q149, e150, h⟩ := h
        obtain ⟨k151, h⟩ := h
        refine ex_cVI (as := [_]) (st := []) (pc := 337) e150 rfl k151 rfl rfl rfl (Nat.le_of_ble_eq_true rfl) (EX.mono h fun r153 M152 h => ?_)
        obtain ⟨x154, rfl, h⟩ := h
        refine ⟨_, rfl, ?_⟩
        refine ex_aload_n (pc := 340) d_Law_law_340 rfl ?_
        refine ex_aload_n (pc := 341) d_Law_law_341 rfl ?_
        refine ex_iload_n (pc := 342) d_Law_law_342 rfl ?_
        refine ex_iconst (w := 1) (pc := 343) d_Law_law_343 (by decide) ?_
        refine ex_iadd (pc := 344) d_Law_law_344 ?_
        obtain ⟨b155, h⟩ := h
        refine ex_sald (X := (X_Law_law bS L xs)) (pc := 345) d_Law_law_345 rfl rfl b155 ?_
        obtain ⟨q156, e157, h⟩ := h
        obtain ⟨k158, h⟩ := h
        refine ex_cVI (as := [_]) (st := [_]) (pc := 346) e157 rfl k158 rfl rfl rfl (Nat.le_of_ble_eq_true rfl) (EX.mono h fun r160 M159 h => ?_)
        obtain ⟨x161, rfl, h⟩ := h
        refine ⟨_, rfl, ?_⟩
        refine ex_icmp_eq (tgt := 631) (pc := 349) d_Law_law_349 (by decide) (fun g => ?_) (fun g => ?_)
        · replace h := h.1 g
          refine ex_iinc (ls2 := [_, _, _, _]) (pc := 631) d_Law_law_631 rfl rfl ?_
          replace h := h _ rfl
          refine ex_goto (tgt := 28) (pc := 634) d_Law_law_634 (by decide) ?_
          exact h
        · replace h := h.2 g
          refine ex_iconst (w := 0) (pc := 352) d_Law_law_352 (by decide) ?_
          exact ex_ret_z (pc := 353) d_Law_law_353 rfl (Or.inl rfl) h
      · replace h := h.2.2.2.2.2.2.2.2.2.1 g
        refine ex_tabAt (c := 8) (tgt := 354) (pc := 42) d_Law_law_42 g (by decide) (by decide) rfl (by decide) ?_
        refine ex_aload_n (pc := 354) d_Law_law_354 rfl ?_
        obtain ⟨q163, e164, h⟩ := h
        obtain ⟨k165, h⟩ := h
        refine ex_cVI (as := []) (st := []) (pc := 355) e164 rfl k165 rfl rfl rfl (Nat.le_of_ble_eq_true rfl) (EX.mono h fun r167 M166 h => ?_)
        obtain ⟨x168, rfl, h⟩ := h
        refine ⟨_, rfl, ?_⟩
        refine ex_aload_n (pc := 358) d_Law_law_358 rfl ?_
        obtain ⟨q169, e170, h⟩ := h
        obtain ⟨k171, h⟩ := h
        refine ex_cVI (as := []) (st := [_]) (pc := 359) e170 rfl k171 rfl rfl rfl (Nat.le_of_ble_eq_true rfl) (EX.mono h fun r173 M172 h => ?_)
        obtain ⟨x174, rfl, h⟩ := h
        refine ⟨_, rfl, ?_⟩
        refine ex_icmp_eq (tgt := 631) (pc := 362) d_Law_law_362 (by decide) (fun g => ?_) (fun g => ?_)
        · replace h := h.1 g
          refine ex_iinc (ls2 := [_, _, _, _]) (pc := 631) d_Law_law_631 rfl rfl ?_
          replace h := h _ rfl
          refine ex_goto (tgt := 28) (pc := 634) d_Law_law_634 (by decide) ?_
          exact h
        · replace h := h.2 g
          refine ex_iconst (w := 0) (pc := 365) d_Law_law_365 (by decide) ?_
          exact ex_ret_z (pc := 366) d_Law_law_366 rfl (Or.inl rfl) h
      · replace h := h.2.2.2.2.2.2.2.2.2.2.1 g
        refine ex_tabAt (c := 9) (tgt := 367) (pc := 42) d_Law_law_42 g (by decide) (by decide) rfl (by decide) ?_
        refine ex_aload_n (pc := 367) d_Law_law_367 rfl ?_
        refine ex_aload_n (pc := 368) d_Law_law_368 rfl ?_
        refine ex_iload_n (pc := 369) d_Law_law_369 rfl ?_
        refine ex_iconst (w := 1) (pc := 370) d_Law_law_370 (by decide) ?_
        refine ex_iadd (pc := 371) d_Law_law_371 ?_
        obtain ⟨b176, h⟩ := h
        refine ex_sald (X := (X_Law_law bS L xs)) (pc := 372) d_Law_law_372 rfl rfl b176 ?_
        refine ex_aload_n (pc := 373) d_Law_law_373 rfl ?_
        refine ex_iload_n (pc := 374) d_Law_law_374 rfl ?_
        refine ex_iconst (w := 2) (pc := 375) d_Law_law_375 (by decide) ?_
        refine ex_iadd (pc := 376) d_Law_law_376 ?_
        obtain ⟨b177, h⟩ := h
        refine ex_sald (X := (X_Law_law bS L xs)) (pc := 377) d_Law_law_377 rfl rfl b177 ?_
        obtain ⟨q178, e179, h⟩ := h
        obtain ⟨k180, h⟩ := h
        refine ex_cVI (as := [_, _]) (st := []) (pc := 378) e179 rfl k180 rfl rfl rfl (Nat.le_of_ble_eq_true rfl) (EX.mono h fun r182 M181 h => ?_)
        obtain ⟨x183, rfl, h⟩ := h
        refine ⟨_, rfl, ?_⟩
        refine ex_aload_n (pc := 381) d_Law_law_381 rfl ?_
        refine ex_aload_n (pc := 382) d_Law_law_382 rfl ?_
        refine ex_iload_n (pc := 383) d_Law_law_383 rfl ?_
        refine ex_iconst (w := 1) (pc := 384) d_Law_law_384 (by decide) ?_
        refine ex_iadd (pc := 385) d_Law_law_385 ?_
        obtain ⟨b184, h⟩ := h
        refine ex_sald (X := (X_Law_law bS L xs)) (pc := 386) d_Law_law_386 rfl rfl b184 ?_
        refine ex_aload_n (pc := 387) d_Law_law_387 rfl ?_
        refine ex_iload_n (pc := 388) d_Law_law_388 rfl ?_
        refine ex_iconst (w := 2) (pc := 389) d_Law_law_389 (by decide) ?_
        refine ex_iadd (pc := 390) d_Law_law_390 ?_
        obtain ⟨b185, h⟩ := h
        refine ex_sald (X := (X_Law_law bS L xs)) (pc := 391) d_Law_law_391 rfl rfl b185 ?_
        obtain ⟨q186, e187, h⟩ := h
        obtain ⟨k188, h⟩ := h
        refine ex_cVI (as := [_, _]) (st := [_]) (pc := 392) e187 rfl k188 rfl rfl rfl (Nat.le_of_ble_eq_true rfl) (EX.mono h fun r190 M189 h => ?_)
        obtain ⟨x191, rfl, h⟩ := h
        refine ⟨_, rfl, ?_⟩
        refine ex_icmp_eq (tgt := 631) (pc := 395) d_Law_law_395 (by decide) (fun g => ?_) (fun g => ?_)
        · replace h := h.1 g
          refine ex_iinc (ls2 := [_, _, _, _]) (pc := 631) d_Law_law_631 rfl rfl ?_
          replace h := h _ rfl
          refine ex_goto (tgt := 28) (pc := 634) d_Law_law_634 (by decide) ?_
          exact h
        · replace h := h.2 g
          refine ex_iconst (w := 0) (pc := 398) d_Law_law_398 (by decide) ?_
          exact ex_ret_z (pc := 399) d_Law_law_399 rfl (Or.inl rfl) h
      · replace h := h.2.2.2.2.2.2.2.2.2.2.2.1 g
        refine ex_tabAt (c := 10) (tgt := 400) (pc := 42) d_Law_law_42 g (by decide) (by decide) rfl (by decide) ?_
        refine ex_aload_n (pc := 400) d_Law_law_400 rfl ?_
        refine ex_aload_n (pc := 401) d_Law_law_401 rfl ?_
        refine ex_iload_n (pc := 402) d_Law_law_402 rfl ?_
        refine ex_iconst (w := 1) (pc := 403) d_Law_law_403 (by decide) ?_
        refine ex_iadd (pc := 404) d_Law_law_404 ?_
        obtain ⟨b193, h⟩ := h
        refine ex_sald (X := (X_Law_law bS L xs)) (pc := 405) d_Law_law_405 rfl rfl b193 ?_
        refine ex_aload_n (pc := 406) d_Law_law_406 rfl ?_
        refine ex_iload_n (pc := 407) d_Law_law_407 rfl ?_
        refine ex_iconst (w := 2) (pc := 408) d_Law_law_408 (by decide) ?_
        refine ex_iadd (pc := 409) d_Law_law_409 ?_
        obtain ⟨b194, h⟩ := h
        refine ex_sald (X := (X_Law_law bS L xs)) (pc := 410) d_Law_law_410 rfl rfl b194 ?_
        obtain ⟨q195, e196, h⟩ := h
        obtain ⟨k197, h⟩ := h
        refine ex_cVI (as := [_, _]) (st := []) (pc := 411) e196 rfl k197 rfl rfl rfl (Nat.le_of_ble_eq_true rfl) (EX.mono h fun r199 M198 h => ?_)
        obtain ⟨x200, rfl, h⟩ := h
        refine ⟨_, rfl, ?_⟩
        refine ex_aload_n (pc := 414) d_Law_law_414 rfl ?_
        refine ex_aload_n (pc := 415) d_Law_law_415 rfl ?_
        refine ex_iload_n (pc := 416) d_Law_law_416 rfl ?_
        refine ex_iconst (w := 1) (pc := 417) d_Law_law_417 (by decide) ?_
        refine ex_iadd (pc := 418) d_Law_law_418 ?_
        obtain ⟨b201, h⟩ := h
        refine ex_sald (X := (X_Law_law bS L xs)) (pc := 419) d_Law_law_419 rfl rfl b201 ?_
        refine ex_aload_n (pc := 420) d_Law_law_420 rfl ?_
        refine ex_iload_n (pc := 421) d_Law_law_421 rfl ?_
        refine ex_iconst (w := 2) (pc := 422) d_Law_law_422 (by decide) ?_
        refine ex_iadd (pc := 423) d_Law_law_423 ?_
        obtain ⟨b202, h⟩ := h
        refine ex_sald (X := (X_Law_law bS L xs)) (pc := 424) d_Law_law_424 rfl rfl b202 ?_
        obtain ⟨q203, e204, h⟩ := h
        obtain ⟨k205, h⟩ := h
        refine ex_cVI (as := [_, _]) (st := [_]) (pc := 425) e204 rfl k205 rfl rfl rfl (Nat.le_of_ble_eq_true rfl) (EX.mono h fun r207 M206 h => ?_)
        obtain ⟨x208, rfl, h⟩ := h
        refine ⟨_, rfl, ?_⟩
        refine ex_icmp_eq (tgt := 631) (pc := 428) d_Law_law_428 (by decide) (fun g => ?_) (fun g => ?_)
        · replace h := h.1 g
          refine ex_iinc (ls2 := [_, _, _, _]) (pc := 631) d_Law_law_631 rfl rfl ?_
          replace h := h _ rfl
          refine ex_goto (tgt := 28) (pc := 634) d_Law_law_634 (by decide) ?_
          exact h
        · replace h := h.2 g
          refine ex_iconst (w := 0) (pc := 431) d_Law_law_431 (by decide) ?_
          exact ex_ret_z (pc := 432) d_Law_law_432 rfl (Or.inl rfl) h
      · replace h := h.2.2.2.2.2.2.2.2.2.2.2.2.1 g
        refine ex_tabAt (c := 11) (tgt := 433) (pc := 42) d_Law_law_42 g (by decide) (by decide) rfl (by decide) ?_
        refine ex_aload_n (pc := 433) d_Law_law_433 rfl ?_
        refine ex_aload_n (pc := 434) d_Law_law_434 rfl ?_
        refine ex_iload_n (pc := 435) d_Law_law_435 rfl ?_
        refine ex_iconst (w := 1) (pc := 436) d_Law_law_436 (by decide) ?_
        refine ex_iadd (pc := 437) d_Law_law_437 ?_
        obtain ⟨b210, h⟩ := h
        refine ex_sald (X := (X_Law_law bS L xs)) (pc := 438) d_Law_law_438 rfl rfl b210 ?_
        refine ex_aload_n (pc := 439) d_Law_law_439 rfl ?_
        refine ex_iload_n (pc := 440) d_Law_law_440 rfl ?_
        refine ex_iconst (w := 2) (pc := 441) d_Law_law_441 (by decide) ?_
        refine ex_iadd (pc := 442) d_Law_law_442 ?_
        obtain ⟨b211, h⟩ := h
        refine ex_sald (X := (X_Law_law bS L xs)) (pc := 443) d_Law_law_443 rfl rfl b211 ?_
        obtain ⟨q212, e213, h⟩ := h
        obtain ⟨k214, h⟩ := h
        refine ex_cVI (as := [_, _]) (st := []) (pc := 444) e213 rfl k214 rfl rfl rfl (Nat.le_of_ble_eq_true rfl) (EX.mono h fun r216 M215 h => ?_)
        obtain ⟨x217, rfl, h⟩ := h
        refine ⟨_, rfl, ?_⟩
        refine ex_aload_n (pc := 447) d_Law_law_447 rfl ?_
        refine ex_aload_n (pc := 448) d_Law_law_448 rfl ?_
        refine ex_iload_n (pc := 449) d_Law_law_449 rfl ?_
        refine ex_iconst (w := 1) (pc := 450) d_Law_law_450 (by decide) ?_
        refine ex_iadd (pc := 451) d_Law_law_451 ?_
        obtain ⟨b218, h⟩ := h
        refine ex_sald (X := (X_Law_law bS L xs)) (pc := 452) d_Law_law_452 rfl rfl b218 ?_
        refine ex_aload_n (pc := 453) d_Law_law_453 rfl ?_
        refine ex_iload_n (pc := 454) d_Law_law_454 rfl ?_
        refine ex_iconst (w := 2) (pc := 455) d_Law_law_455 (by decide) ?_
        refine ex_iadd (pc := 456) d_Law_law_456 ?_
        obtain ⟨b219, h⟩ := h
        refine ex_sald (X := (X_Law_law bS L xs)) (pc := 457) d_Law_law_457 rfl rfl b219 ?_
        obtain ⟨q220, e221, h⟩ := h
        obtain ⟨k222, h⟩ := h
        refine ex_cVI (as := [_, _]) (st := [_]) (pc := 458) e221 rfl k222 rfl rfl rfl (Nat.le_of_ble_eq_true rfl) (EX.mono h fun r224 M223 h => ?_)
        obtain ⟨x225, rfl, h⟩ := h
        refine ⟨_, rfl, ?_⟩
        refine ex_icmp_eq (tgt := 631) (pc := 461) d_Law_law_461 (by decide) (fun g => ?_) (fun g => ?_)
        · replace h := h.1 g
          refine ex_iinc (ls2 := [_, _, _, _]) (pc := 631) d_Law_law_631 rfl rfl ?_
          replace h := h _ rfl
          refine ex_goto (tgt := 28) (pc := 634) d_Law_law_634 (by decide) ?_
          exact h
        · replace h := h.2 g
          refine ex_iconst (w := 0) (pc := 464) d_Law_law_464 (by decide) ?_
          exact ex_ret_z (pc := 465) d_Law_law_465 rfl (Or.inl rfl) h
      · replace h := h.2.2.2.2.2.2.2.2.2.2.2.2.2.1 g
        refine ex_tabAt (c := 12) (tgt := 466) (pc := 42) d_Law_law_42 g (by decide) (by decide) rfl (by decide) ?_
        refine ex_aload_n (pc := 466) d_Law_law_466 rfl ?_
        refine ex_aload_n (pc := 467) d_Law_law_467 rfl ?_
        refine ex_iload_n (pc := 468) d_Law_law_468 rfl ?_
        refine ex_iconst (w := 1) (pc := 469) d_Law_law_469 (by decide) ?_
        refine ex_iadd (pc := 470) d_Law_law_470 ?_
        obtain ⟨b227, h⟩ := h
        refine ex_sald (X := (X_Law_law bS L xs)) (pc := 471) d_Law_law_471 rfl rfl b227 ?_
        refine ex_aload_n (pc := 472) d_Law_law_472 rfl ?_
        refine ex_iload_n (pc := 473) d_Law_law_473 rfl ?_
        refine ex_iconst (w := 2) (pc := 474) d_Law_law_474 (by decide) ?_
        refine ex_iadd (pc := 475) d_Law_law_475 ?_
        obtain ⟨b228, h⟩ := h
        refine ex_sald (X := (X_Law_law bS L xs)) (pc := 476) d_Law_law_476 rfl rfl b228 ?_
        obtain ⟨q229, e230, h⟩ := h
        obtain ⟨k231, h⟩ := h
        refine ex_cVI (as := [_, _]) (st := []) (pc := 477) e230 rfl k231 rfl rfl rfl (Nat.le_of_ble_eq_true rfl) (EX.mono h fun r233 M232 h => ?_)
        obtain ⟨x234, rfl, h⟩ := h
        refine ⟨_, rfl, ?_⟩
        refine ex_aload_n (pc := 480) d_Law_law_480 rfl ?_
        refine ex_aload_n (pc := 481) d_Law_law_481 rfl ?_
        refine ex_iload_n (pc := 482) d_Law_law_482 rfl ?_
        refine ex_iconst (w := 1) (pc := 483) d_Law_law_483 (by decide) ?_
        refine ex_iadd (pc := 484) d_Law_law_484 ?_
        obtain ⟨b235, h⟩ := h
        refine ex_sald (X := (X_Law_law bS L xs)) (pc := 485) d_Law_law_485 rfl rfl b235 ?_
        refine ex_aload_n (pc := 486) d_Law_law_486 rfl ?_
        refine ex_iload_n (pc := 487) d_Law_law_487 rfl ?_
        refine ex_iconst (w := 2) (pc := 488) d_Law_law_488 (by decide) ?_
        refine ex_iadd (pc := 489) d_Law_law_489 ?_
        obtain ⟨b236, h⟩ := h
        refine ex_sald (X := (X_Law_law bS L xs)) (pc := 490) d_Law_law_490 rfl rfl b236 ?_
        obtain ⟨q237, e238, h⟩ := h
        obtain ⟨k239, h⟩ := h
        refine ex_cVI (as := [_, _]) (st := [_]) (pc := 491) e238 rfl k239 rfl rfl rfl (Nat.le_of_ble_eq_true rfl) (EX.mono h fun r241 M240 h => ?_)
        obtain ⟨x242, rfl, h⟩ := h
        refine ⟨_, rfl, ?_⟩
        refine ex_icmp_eq (tgt := 631) (pc := 494) d_Law_law_494 (by decide) (fun g => ?_) (fun g => ?_)
        · replace h := h.1 g
          refine ex_iinc (ls2 := [_, _, _, _]) (pc := 631) d_Law_law_631 rfl rfl ?_
          replace h := h _ rfl
          refine ex_goto (tgt := 28) (pc := 634) d_Law_law_634 (by decide) ?_
          exact h
        · replace h := h.2 g
          refine ex_iconst (w := 0) (pc := 497) d_Law_law_497 (by decide) ?_
          exact ex_ret_z (pc := 498) d_Law_law_498 rfl (Or.inl rfl) h
      · replace h := h.2.2.2.2.2.2.2.2.2.2.2.2.2.2.1 g
        refine ex_tabAt (c := 13) (tgt := 499) (pc := 42) d_Law_law_42 g (by decide) (by decide) rfl (by decide) ?_
        refine ex_aload_n (pc := 499) d_Law_law_499 rfl ?_
        refine ex_aload_n (pc := 500) d_Law_law_500 rfl ?_
        refine ex_iload_n (pc := 501) d_Law_law_501 rfl ?_
        refine ex_iconst (w := 1) (pc := 502) d_Law_law_502 (by decide) ?_
        refine ex_iadd (pc := 503) d_Law_law_503 ?_
        obtain ⟨b244, h⟩ := h
        refine ex_sald (X := (X_Law_law bS L xs)) (pc := 504) d_Law_law_504 rfl rfl b244 ?_
        refine ex_aload_n (pc := 505) d_Law_law_505 rfl ?_
        refine ex_iload_n (pc := 506) d_Law_law_506 rfl ?_
        refine ex_iconst (w := 2) (pc := 507) d_Law_law_507 (by decide) ?_
        refine ex_iadd (pc := 508) d_Law_law_508 ?_
        obtain ⟨b245, h⟩ := h
        refine ex_sald (X := (X_Law_law bS L xs)) (pc := 509) d_Law_law_509 rfl rfl b245 ?_
        obtain ⟨q246, e247, h⟩ := h
        obtain ⟨k248, h⟩ := h
        refine ex_cVI (as := [_, _]) (st := []) (pc := 510) e247 rfl k248 rfl rfl rfl (Nat.le_of_ble_eq_true rfl) (EX.mono h fun r250 M249 h => ?_)
        obtain ⟨x251, rfl, h⟩ := h
        refine ⟨_, rfl, ?_⟩
        refine ex_aload_n (pc := 513) d_Law_law_513 rfl ?_
        refine ex_aload_n (pc := 514) d_Law_law_514 rfl ?_
        refine ex_iload_n (pc := 515) d_Law_law_515 rfl ?_
        refine ex_iconst (w := 1) (pc := 516) d_Law_law_516 (by decide) ?_
        refine ex_iadd (pc := 517) d_Law_law_517 ?_
        obtain ⟨b252, h⟩ := h
        refine ex_sald (X := (X_Law_law bS L xs)) (pc := 518) d_Law_law_518 rfl rfl b252 ?_
        refine ex_aload_n (pc := 519) d_Law_law_519 rfl ?_
        refine ex_iload_n (pc := 520) d_Law_law_520 rfl ?_
        refine ex_iconst (w := 2) (pc := 521) d_Law_law_521 (by decide) ?_
        refine ex_iadd (pc := 522) d_Law_law_522 ?_
        obtain ⟨b253, h⟩ := h
        refine ex_sald (X := (X_Law_law bS L xs)) (pc := 523) d_Law_law_523 rfl rfl b253 ?_
        obtain ⟨q254, e255, h⟩ := h
        obtain ⟨k256, h⟩ := h
        refine ex_cVI (as := [_, _]) (st := [_]) (pc := 524) e255 rfl k256 rfl rfl rfl (Nat.le_of_ble_eq_true rfl) (EX.mono h fun r258 M257 h => ?_)
        obtain ⟨x259, rfl, h⟩ := h
        refine ⟨_, rfl, ?_⟩
        refine ex_icmp_eq (tgt := 631) (pc := 527) d_Law_law_527 (by decide) (fun g => ?_) (fun g => ?_)
        · replace h := h.1 g
          refine ex_iinc (ls2 := [_, _, _, _]) (pc := 631) d_Law_law_631 rfl rfl ?_
          replace h := h _ rfl
          refine ex_goto (tgt := 28) (pc := 634) d_Law_law_634 (by decide) ?_
          exact h
        · replace h := h.2 g
          refine ex_iconst (w := 0) (pc := 530) d_Law_law_530 (by decide) ?_
          exact ex_ret_z (pc := 531) d_Law_law_531 rfl (Or.inl rfl) h
      · replace h := h.2.2.2.2.2.2.2.2.2.2.2.2.2.2.2.1 g
        refine ex_tabAt (c := 14) (tgt := 532) (pc := 42) d_Law_law_42 g (by decide) (by decide) rfl (by decide) ?_
        refine ex_aload_n (pc := 532) d_Law_law_532 rfl ?_
        refine ex_aload_n (pc := 533) d_Law_law_533 rfl ?_
        refine ex_iload_n (pc := 534) d_Law_law_534 rfl ?_
        refine ex_iconst (w := 1) (pc := 535) d_Law_law_535 (by decide) ?_
        refine ex_iadd (pc := 536) d_Law_law_536 ?_
        obtain ⟨b261, h⟩ := h
        refine ex_sald (X := (X_Law_law bS L xs)) (pc := 537) d_Law_law_537 rfl rfl b261 ?_
        refine ex_aload_n (pc := 538) d_Law_law_538 rfl ?_
        refine ex_iload_n (pc := 539) d_Law_law_539 rfl ?_
        refine ex_iconst (w := 2) (pc := 540) d_Law_law_540 (by decide) ?_
        refine ex_iadd (pc := 541) d_Law_law_541 ?_
        obtain ⟨b262, h⟩ := h
        refine ex_sald (X := (X_Law_law bS L xs)) (pc := 542) d_Law_law_542 rfl rfl b262 ?_
        obtain ⟨q263, e264, h⟩ := h
        obtain ⟨k265, h⟩ := h
        refine ex_cVI (as := [_, _]) (st := []) (pc := 543) e264 rfl k265 rfl rfl rfl (Nat.le_of_ble_eq_true rfl) (EX.mono h fun r267 M266 h => ?_)
        obtain ⟨x268, rfl, h⟩ := h
        refine ⟨_, rfl, ?_⟩
        refine ex_aload_n (pc := 546) d_Law_law_546 rfl ?_
        refine ex_aload_n (pc := 547) d_Law_law_547 rfl ?_
        refine ex_iload_n (pc := 548) d_Law_law_548 rfl ?_
        refine ex_iconst (w := 1) (pc := 549) d_Law_law_549 (by decide) ?_
        refine ex_iadd (pc := 550) d_Law_law_550 ?_
        obtain ⟨b269, h⟩ := h
        refine ex_sald (X := (X_Law_law bS L xs)) (pc := 551) d_Law_law_551 rfl rfl b269 ?_
        refine ex_aload_n (pc := 552) d_Law_law_552 rfl ?_
        refine ex_iload_n (pc := 553) d_Law_law_553 rfl ?_
        refine ex_iconst (w := 2) (pc := 554) d_Law_law_554 (by decide) ?_
        refine ex_iadd (pc := 555) d_Law_law_555 ?_
        obtain ⟨b270, h⟩ := h
        refine ex_sald (X := (X_Law_law bS L xs)) (pc := 556) d_Law_law_556 rfl rfl b270 ?_
        obtain ⟨q271, e272, h⟩ := h
        obtain ⟨k273, h⟩ := h
        refine ex_cVI (as := [_, _]) (st := [_]) (pc := 557) e272 rfl k273 rfl rfl rfl (Nat.le_of_ble_eq_true rfl) (EX.mono h fun r275 M274 h => ?_)
        obtain ⟨x276, rfl, h⟩ := h
        refine ⟨_, rfl, ?_⟩
        refine ex_icmp_eq (tgt := 631) (pc := 560) d_Law_law_560 (by decide) (fun g => ?_) (fun g => ?_)
        · replace h := h.1 g
          refine ex_iinc (ls2 := [_, _, _, _]) (pc := 631) d_Law_law_631 rfl rfl ?_
          replace h := h _ rfl
          refine ex_goto (tgt := 28) (pc := 634) d_Law_law_634 (by decide) ?_
          exact h
        · replace h := h.2 g
          refine ex_iconst (w := 0) (pc := 563) d_Law_law_563 (by decide) ?_
          exact ex_ret_z (pc := 564) d_Law_law_564 rfl (Or.inl rfl) h
      · replace h := h.2.2.2.2.2.2.2.2.2.2.2.2.2.2.2.2.1 g
        refine ex_tabAt (c := 15) (tgt := 565) (pc := 42) d_Law_law_42 g (by decide) (by decide) rfl (by decide) ?_
        refine ex_aload_n (pc := 565) d_Law_law_565 rfl ?_
        refine ex_aload_n (pc := 566) d_Law_law_566 rfl ?_
        refine ex_iload_n (pc := 567) d_Law_law_567 rfl ?_
        refine ex_iconst (w := 1) (pc := 568) d_Law_law_568 (by decide) ?_
        refine ex_iadd (pc := 569) d_Law_law_569 ?_
        obtain ⟨b278, h⟩ := h
        refine ex_sald (X := (X_Law_law bS L xs)) (pc := 570) d_Law_law_570 rfl rfl b278 ?_
        refine ex_aload_n (pc := 571) d_Law_law_571 rfl ?_
        refine ex_iload_n (pc := 572) d_Law_law_572 rfl ?_
        refine ex_iconst (w := 2) (pc := 573) d_Law_law_573 (by decide) ?_
        refine ex_iadd (pc := 574) d_Law_law_574 ?_
        obtain ⟨b279, h⟩ := h
        refine ex_sald (X := (X_Law_law bS L xs)) (pc := 575) d_Law_law_575 rfl rfl b279 ?_
        obtain ⟨q280, e281, h⟩ := h
        obtain ⟨k282, h⟩ := h
        refine ex_cVI (as := [_, _]) (st := []) (pc := 576) e281 rfl k282 rfl rfl rfl (Nat.le_of_ble_eq_true rfl) (EX.mono h fun r284 M283 h => ?_)
        obtain ⟨x285, rfl, h⟩ := h
        refine ⟨_, rfl, ?_⟩
        refine ex_aload_n (pc := 579) d_Law_law_579 rfl ?_
        refine ex_aload_n (pc := 580) d_Law_law_580 rfl ?_
        refine ex_iload_n (pc := 581) d_Law_law_581 rfl ?_
        refine ex_iconst (w := 1) (pc := 582) d_Law_law_582 (by decide) ?_
        refine ex_iadd (pc := 583) d_Law_law_583 ?_
        obtain ⟨b286, h⟩ := h
        refine ex_sald (X := (X_Law_law bS L xs)) (pc := 584) d_Law_law_584 rfl rfl b286 ?_
        refine ex_aload_n (pc := 585) d_Law_law_585 rfl ?_
        refine ex_iload_n (pc := 586) d_Law_law_586 rfl ?_
        refine ex_iconst (w := 2) (pc := 587) d_Law_law_587 (by decide) ?_
        refine ex_iadd (pc := 588) d_Law_law_588 ?_
        obtain ⟨b287, h⟩ := h
        refine ex_sald (X := (X_Law_law bS L xs)) (pc := 589) d_Law_law_589 rfl rfl b287 ?_
        obtain ⟨q288, e289, h⟩ := h
        obtain ⟨k290, h⟩ := h
        refine ex_cVI (as := [_, _]) (st := [_]) (pc := 590) e289 rfl k290 rfl rfl rfl (Nat.le_of_ble_eq_true rfl) (EX.mono h fun r292 M291 h => ?_)
        obtain ⟨x293, rfl, h⟩ := h
        refine ⟨_, rfl, ?_⟩
        refine ex_icmp_eq (tgt := 631) (pc := 593) d_Law_law_593 (by decide) (fun g => ?_) (fun g => ?_)
        · replace h := h.1 g
          refine ex_iinc (ls2 := [_, _, _, _]) (pc := 631) d_Law_law_631 rfl rfl ?_
          replace h := h _ rfl
          refine ex_goto (tgt := 28) (pc := 634) d_Law_law_634 (by decide) ?_
          exact h
        · replace h := h.2 g
          refine ex_iconst (w := 0) (pc := 596) d_Law_law_596 (by decide) ?_
          exact ex_ret_z (pc := 597) d_Law_law_597 rfl (Or.inl rfl) h
      · replace h := h.2.2.2.2.2.2.2.2.2.2.2.2.2.2.2.2.2 g
        refine ex_tabAt (c := 16) (tgt := 598) (pc := 42) d_Law_law_42 g (by decide) (by decide) rfl (by decide) ?_
        refine ex_aload_n (pc := 598) d_Law_law_598 rfl ?_
        refine ex_aload_n (pc := 599) d_Law_law_599 rfl ?_
        refine ex_iload_n (pc := 600) d_Law_law_600 rfl ?_
        refine ex_iconst (w := 1) (pc := 601) d_Law_law_601 (by decide) ?_
        refine ex_iadd (pc := 602) d_Law_law_602 ?_
        obtain ⟨b295, h⟩ := h
        refine ex_sald (X := (X_Law_law bS L xs)) (pc := 603) d_Law_law_603 rfl rfl b295 ?_
        refine ex_aload_n (pc := 604) d_Law_law_604 rfl ?_
        refine ex_iload_n (pc := 605) d_Law_law_605 rfl ?_
        refine ex_iconst (w := 2) (pc := 606) d_Law_law_606 (by decide) ?_
        refine ex_iadd (pc := 607) d_Law_law_607 ?_
        obtain ⟨b296, h⟩ := h
        refine ex_sald (X := (X_Law_law bS L xs)) (pc := 608) d_Law_law_608 rfl rfl b296 ?_
        obtain ⟨q297, e298, h⟩ := h
        obtain ⟨k299, h⟩ := h
        refine ex_cVI (as := [_, _]) (st := []) (pc := 609) e298 rfl k299 rfl rfl rfl (Nat.le_of_ble_eq_true rfl) (EX.mono h fun r301 M300 h => ?_)
        obtain ⟨x302, rfl, h⟩ := h
        refine ⟨_, rfl, ?_⟩
        refine ex_aload_n (pc := 612) d_Law_law_612 rfl ?_
        refine ex_aload_n (pc := 613) d_Law_law_613 rfl ?_
        refine ex_iload_n (pc := 614) d_Law_law_614 rfl ?_
        refine ex_iconst (w := 1) (pc := 615) d_Law_law_615 (by decide) ?_
        refine ex_iadd (pc := 616) d_Law_law_616 ?_
        obtain ⟨b303, h⟩ := h
        refine ex_sald (X := (X_Law_law bS L xs)) (pc := 617) d_Law_law_617 rfl rfl b303 ?_
        refine ex_aload_n (pc := 618) d_Law_law_618 rfl ?_
        refine ex_iload_n (pc := 619) d_Law_law_619 rfl ?_
        refine ex_iconst (w := 2) (pc := 620) d_Law_law_620 (by decide) ?_
        refine ex_iadd (pc := 621) d_Law_law_621 ?_
        obtain ⟨b304, h⟩ := h
        refine ex_sald (X := (X_Law_law bS L xs)) (pc := 622) d_Law_law_622 rfl rfl b304 ?_
        obtain ⟨q305, e306, h⟩ := h
        obtain ⟨k307, h⟩ := h
        refine ex_cVI (as := [_, _]) (st := [_]) (pc := 623) e306 rfl k307 rfl rfl rfl (Nat.le_of_ble_eq_true rfl) (EX.mono h fun r309 M308 h => ?_)
        obtain ⟨x310, rfl, h⟩ := h
        refine ⟨_, rfl, ?_⟩
        refine ex_icmp_eq (tgt := 631) (pc := 626) d_Law_law_626 (by decide) (fun g => ?_) (fun g => ?_)
        · replace h := h.1 g
          refine ex_iinc (ls2 := [_, _, _, _]) (pc := 631) d_Law_law_631 rfl rfl ?_
          replace h := h _ rfl
          refine ex_goto (tgt := 28) (pc := 634) d_Law_law_634 (by decide) ?_
          exact h
        · replace h := h.2 g
          refine ex_iconst (w := 0) (pc := 629) d_Law_law_629 (by decide) ?_
          exact ex_ret_z (pc := 630) d_Law_law_630 rfl (Or.inl rfl) h
