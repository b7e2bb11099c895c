theorem sg_Md_init_0 {h0 : Nat} {v1 : Int32} {M : me_M} {Q : Option me_V → me_M → Prop} (h : ∀ q2 M1, q2 = mSz M → M1 = mNew M 101 (5 : Int32).toNatClampNeg (5 : Int32).toNatClampNeg → mKd M1 h0 = 11 ∧ ∀ M5, M5 = mSetR M1 1643 h0 0 (some q2) → ∀ q7 M6, q7 = mSz M5 → M6 = mNew M5 100 (20 : Int32).toNatClampNeg (20 : Int32).toNatClampNeg → mKd M6 h0 = 11 ∧ ∀ M10, M10 = mSetR M6 1644 h0 0 (some q7) → ∀ q12 M11, q12 = mSz M10 → M11 = mNew M10 100 (5 : Int32).toNatClampNeg (5 : Int32).toNatClampNeg → mKd M11 h0 = 11 ∧ ∀ M15, M15 = mSetR M11 1645 h0 0 (some q12) → ∀ q17 M16, q17 = mSz M15 → M16 = mNew M15 100 (150 : Int32).toNatClampNeg (150 : Int32).toNatClampNeg → mKd M16 h0 = 11 ∧ ∀ M20, M20 = mSetR M16 1646 h0 0 (some q17) → ∀ q22 M21, q22 = mSz M20 → M21 = mNew M20 100 (150 : Int32).toNatClampNeg (150 : Int32).toNatClampNeg → mKd M21 h0 = 11 ∧ ∀ M25, M25 = mSetR M21 1647 h0 0 (some q22) → ∀ q27 M26, q27 = mSz M25 → M26 = mNew M25 100 (150 : Int32).toNatClampNeg (150 : Int32).toNatClampNeg → mKd M26 h0 = 11 ∧ ∀ M30, M30 = mSetR M26 1648 h0 0 (some q27) → ∀ q32 M31, q32 = mSz M30 → M31 = mNew M30 100 (150 : Int32).toNatClampNeg (150 : Int32).toNatClampNeg → mKd M31 h0 = 11 ∧ ∀ M35, M35 = mSetR M31 1649 h0 0 (some q32) → ∀ q37 M36, q37 = mSz M35 → M36 = mNew M35 100 (150 : Int32).toNatClampNeg (150 : Int32).toNatClampNeg → mKd M36 h0 = 11 ∧ ∀ M40, M40 = mSetR M36 1650 h0 0 (some q37) → ∀ q42 M41, q42 = mSz M40 → M41 = mNew M40 100 (150 : Int32).toNatClampNeg (150 : Int32).toNatClampNeg → mKd M41 h0 = 11 ∧ ∀ M45, M45 = mSetR M41 1651 h0 0 (some q42) → ∀ q47 M46, q47 = mSz M45 → M46 = mNew M45 100 (150 : Int32).toNatClampNeg (150 : Int32).toNatClampNeg → mKd M46 h0 = 11 ∧ ∀ M50, M50 = mSetR M46 1652 h0 0 (some q47) → ∀ q52 M51, q52 = mSz M50 → M51 = mNew M50 100 (150 : Int32).toNatClampNeg (150 : Int32).toNatClampNeg → mKd M51 h0 = 11 ∧ ∀ M55, M55 = mSetR M51 1653 h0 0 (some q52) → ∀ q57 M56, q57 = mSz M55 → M56 = mNew M55 100 (150 : Int32).toNatClampNeg (150 : Int32).toNatClampNeg → mKd M56 h0 = 11 ∧ ∀ M60, M60 = mSetR M56 1654 h0 0 (some q57) → ∀ q62 M61, q62 = mSz M60 → M61 = mNew M60 101 (150 : Int32).toNatClampNeg (150 : Int32).toNatClampNeg → mKd M61 h0 = 11 ∧ ∀ M65, M65 = mSetR M61 1655 h0 0 (some q62) → ∀ q67 M66, q67 = mSz M65 → M66 = mNew M65 100 (150 : Int32).toNatClampNeg (150 : Int32).toNatClampNeg → mKd M66 h0 = 11 ∧ ∀ M70, M70 = mSetR M66 1656 h0 0 (some q67) → ∀ q72 M71, q72 = mSz M70 → M71 = mNew M70 100 (150 : Int32).toNatClampNeg (150 : Int32).toNatClampNeg → mKd M71 h0 = 11 ∧ ∀ M75, M75 = mSetR M71 1657 h0 0 (some q72) → ∀ q77 M76, q77 = mSz M75 → M76 = mNew M75 100 (150 : Int32).toNatClampNeg (150 : Int32).toNatClampNeg → mKd M76 h0 = 11 ∧ ∀ M80, M80 = mSetR M76 1658 h0 0 (some q77) → ∀ q82 M81, q82 = mSz M80 → M81 = mNew M80 100 (600 : Int32).toNatClampNeg (600 : Int32).toNatClampNeg → mKd M81 h0 = 11 ∧ ∀ M85, M85 = mSetR M81 1659 h0 0 (some q82) → ∀ q87 M86, q87 = mSz M85 → M86 = mNew M85 100 (600 : Int32).toNatClampNeg (600 : Int32).toNatClampNeg → mKd M86 h0 = 11 ∧ ∀ M90, M90 = mSetR M86 1660 h0 0 (some q87) → ∀ q92 M91, q92 = mSz M90 → M91 = mNew M90 100 (600 : Int32).toNatClampNeg (600 : Int32).toNatClampNeg → mKd M91 h0 = 11 ∧ ∀ M95, M95 = mSetR M91 1661 h0 0 (some q92) → ∀ q97 M96, q97 = mSz M95 → M96 = mNew M95 100 (600 : Int32).toNatClampNeg (600 : Int32).toNatClampNeg → mKd M96 h0 = 11 ∧ ∀ M100, M100 = mSetR M96 1662 h0 0 (some q97) → ∀ q102 M101, q102 = mSz M100 → M101 = mNew M100 100 (600 : Int32).toNatClampNeg (600 : Int32).toNatClampNeg → mKd M101 h0 = 11 ∧ ∀ M105, M105 = mSetR M101 1663 h0 0 (some q102) → ∀ q107 M106, q107 = mSz M105 → M106 = mNew M105 100 (600 : Int32).toNatClampNeg (600 : Int32).toNatClampNeg → mKd M106 h0 = 11 ∧ ∀ M110, M110 = mSetR M106 1664 h0 0 (some q107) → ∀ q112 M111, q112 = mSz M110 → M111 = mNew M110 100 (600 : Int32).toNatClampNeg (600 : Int32).toNatClampNeg → mKd M111 h0 = 11 ∧ ∀ M115, M115 = mSetR M111 1665 h0 0 (some q112) → ∀ q117 M116, q117 = mSz M115 → M116 = mNew M115 100 (451 : Int32).toNatClampNeg (451 : Int32).toNatClampNeg → mKd M116 h0 = 11 ∧ ∀ M120, M120 = mSetR M116 1668 h0 0 (some q117) → ∀ q122 M121, q122 = mSz M120 → M121 = mNew M120 100 (30 : Int32).toNatClampNeg (30 : Int32).toNatClampNeg → mKd M121 h0 = 11 ∧ ∀ M125, M125 = mSetR M121 1669 h0 0 (some q122) → ((4 ≤ v1) → ∀ M126, M126 = mSetI M125 1640 h0 0 5 → ∀ M127, M127 = mSetI M126 1641 h0 0 ((mI M126 1640 h0 0) / 2) → ∀ M128, M128 = mSetI M127 1642 h0 0 (6 * (mI M127 1640 h0 0)) → Q none M128) ∧ ((¬ 4 ≤ v1) → ∀ M129, M129 = mSetI M125 1640 h0 0 3 → ∀ M130, M130 = mSetI M129 1641 h0 0 ((mI M129 1640 h0 0) / 2) → ∀ M131, M131 = mSetI M130 1642 h0 0 (6 * (mI M130 1640 h0 0)) → Q none M131)) : EX eL X_Md_init 0 [some (.inr (some h0)), some (.inl v1)] [] M Q := by
  refine ex_aload_n (pc := 0) d_Md_init_0 rfl ?_
  refine ex_obj (pc := 1) d_Md_init_1 rfl (by decide) (Nat.le_of_ble_eq_true rfl) ?_
  refine ex_aload_n (pc := 4) d_Md_init_4 rfl ?_
  refine ex_iconst (w := 5) (pc := 5) d_Md_init_5 (by decide) ?_
  refine ex_newZ (pc := 6) d_Md_init_6 rfl (by decide) (by decide) (fun k3 => ?_)
  replace h := h _ _ rfl rfl
  obtain ⟨k4, h⟩ := h
  refine ex_putR (pc := 8) d_Md_init_8 rfl rfl k4 ?_
  replace h := h _ rfl
  refine ex_aload_n (pc := 11) d_Md_init_11 rfl ?_
  refine ex_bipush (w := 20) (pc := 12) d_Md_init_12 (by decide) ?_
  refine ex_newI (pc := 14) d_Md_init_14 rfl (by decide) (by decide) (fun k8 => ?_)
  replace h := h _ _ rfl rfl
  obtain ⟨k9, h⟩ := h
  refine ex_putR (pc := 16) d_Md_init_16 rfl rfl k9 ?_
  replace h := h _ rfl
  refine ex_aload_n (pc := 19) d_Md_init_19 rfl ?_
  refine ex_iconst (w := 5) (pc := 20) d_Md_init_20 (by decide) ?_
  refine ex_newI (pc := 21) d_Md_init_21 rfl (by decide) (by decide) (fun k13 => ?_)
  replace h := h _ _ rfl rfl
  obtain ⟨k14, h⟩ := h
  refine ex_putR (pc := 23) d_Md_init_23 rfl rfl k14 ?_
  replace h := h _ rfl
  refine ex_aload_n (pc := 26) d_Md_init_26 rfl ?_
  refine ex_sipush (w := 150) (pc := 27) d_Md_init_27 (by decide) ?_
  refine ex_newI (pc := 30) d_Md_init_30 rfl (by decide) (by decide) (fun k18 => ?_)
  replace h := h _ _ rfl rfl
  obtain ⟨k19, h⟩ := h
  refine ex_putR (pc := 32) d_Md_init_32 rfl rfl k19 ?_
  replace h := h _ rfl
  refine ex_aload_n (pc := 35) d_Md_init_35 rfl ?_
  refine ex_sipush (w := 150) (pc := 36) d_Md_init_36 (by decide) ?_
  refine ex_newI (pc := 39) d_Md_init_39 rfl (by decide) (by decide) (fun k23 => ?_)
  replace h := h _ _ rfl rfl
  obtain ⟨k24, h⟩ := h
  refine ex_putR (pc := 41) d_Md_init_41 rfl rfl k24 ?_
  replace h := h _ rfl
  refine ex_aload_n (pc := 44) d_Md_init_44 rfl ?_
  refine ex_sipush (w := 150) (pc := 45) d_Md_init_45 (by decide) ?_
  refine ex_newI (pc := 48) d_Md_init_48 rfl (by decide) (by decide) (fun k28 => ?_)
  replace h := h _ _ rfl rfl
  obtain ⟨k29, h⟩ := h
  refine ex_putR (pc := 50) d_Md_init_50 rfl rfl k29 ?_
  replace h := h _ rfl
  refine ex_aload_n (pc := 53) d_Md_init_53 rfl ?_
  refine ex_sipush (w := 150) (pc := 54) d_Md_init_54 (by decide) ?_
  refine ex_newI (pc := 57) d_Md_init_57 rfl (by decide) (by decide) (fun k33 => ?_)
  replace h := h _ _ rfl rfl
  obtain ⟨k34, h⟩ := h
  refine ex_putR (pc := 59) d_Md_init_59 rfl rfl k34 ?_
  replace h := h _ rfl
  refine ex_aload_n (pc := 62) d_Md_init_62 rfl ?_
  refine ex_sipush (w := 150) (pc := 63) d_Md_init_63 (by decide) ?_
  refine ex_newI (pc := 66) d_Md_init_66 rfl (by decide) (by decide) (fun k38 => ?_)
  replace h := h _ _ rfl rfl
  obtain ⟨k39, h⟩ := h
  refine ex_putR (pc := 68) d_Md_init_68 rfl rfl k39 ?_
  replace h := h _ rfl
  refine ex_aload_n (pc := 71) d_Md_init_71 rfl ?_
  refine ex_sipush (w := 150) (pc := 72) d_Md_init_72 (by decide) ?_
  refine ex_newI (pc := 75) d_Md_init_75 rfl (by decide) (by decide) (fun k43 => ?_)
  replace h := h _ _ rfl rfl
  obtain ⟨k44, h⟩ := h
  refine ex_putR (pc := 77) d_Md_init_77 rfl rfl k44 ?_
  replace h := h _ rfl
  refine ex_aload_n (pc := 80) d_Md_init_80 rfl ?_
  refine ex_sipush (w := 150) (pc := 81) d_Md_init_81 (by decide) ?_
  refine ex_newI (pc := 84) d_Md_init_84 rfl (by decide) (by decide) (fun k48 => ?_)
  replace h := h _ _ rfl rfl
  obtain ⟨k49, h⟩ := h
  refine ex_putR (pc := 86) d_Md_init_86 rfl rfl k49 ?_
  replace h := h _ rfl
  refine ex_aload_n (pc := 89) d_Md_init_89 rfl ?_
  refine ex_sipush (w := 150) (pc := 90) d_Md_init_90 (by decide) ?_
  refine ex_newI (pc := 93) d_Md_init_93 rfl (by decide) (by decide) (fun k53 => ?_)
  replace h := h _ _ rfl rfl
  obtain ⟨k54, h⟩ := h
  refine ex_putR (pc := 95) d_Md_init_95 rfl rfl k54 ?_
  replace h := h _ rfl
  refine ex_aload_n (pc := 98) d_Md_init_98 rfl ?_
  refine ex_sipush (w := 150) (pc := 99) d_Md_init_99 (by decide) ?_
  refine ex_newI (pc := 102) d_Md_init_102 rfl (by decide) (by decide) (fun k58 => ?_)
  replace h := h _ _ rfl rfl
  obtain ⟨k59, h⟩ := h
  refine ex_putR (pc := 104) d_Md_init_104 rfl rfl k59 ?_
  replace h := h _ rfl
  refine ex_aload_n (pc := 107) d_Md_init_107 rfl ?_
  refine ex_sipush (w := 150) (pc := 108) d_Md_init_108 (by decide) ?_
  refine ex_newZ (pc := 111) d_Md_init_111 rfl (by decide) (by decide) (fun k63 => ?_)
  replace h := h _ _ rfl rfl
  obtain ⟨k64, h⟩ := h
  refine ex_putR (pc := 113) d_Md_init_113 rfl rfl k64 ?_
  replace h := h _ rfl
  refine ex_aload_n (pc := 116) d_Md_init_116 rfl ?_
  refine ex_sipush (w := 150) (pc := 117) d_Md_init_117 (by decide) ?_
  refine ex_newI (pc := 120) d_Md_init_120 rfl (by decide) (by decide) (fun k68 => ?_)
  replace h := h _ _ rfl rfl
  obtain ⟨k69, h⟩ := h
  refine ex_putR (pc := 122) d_Md_init_122 rfl rfl k69 ?_
  replace h := h _ rfl
  refine ex_aload_n (pc := 125) d_Md_init_125 rfl ?_
  refine ex_sipush (w := 150) (pc := 126) d_Md_init_126 (by decide) ?_
  refine ex_newI (pc := 129) d_Md_init_129 rfl (by decide) (by decide) (fun k73 => ?_)
  replace h := h _ _ rfl rfl
  obtain ⟨k74, h⟩ := h
  refine ex_putR (pc := 131) d_Md_init_131 rfl rfl k74 ?_
  replace h := h _ rfl
  refine ex_aload_n (pc := 134) d_Md_init_134 rfl ?_
  refine ex_sipush (w := 150) (pc := 135) d_Md_init_135 (by decide) ?_
  refine ex_newI (pc := 138) d_Md_init_138 rfl (by decide) (by decide) (fun k78 => ?_)
  replace h := h _ _ rfl rfl
  obtain ⟨k79, h⟩ := h
  refine ex_putR (pc := 140) d_Md_init_140 rfl rfl k79 ?_
  replace h := h _ rfl
  refine ex_aload_n (pc := 143) d_Md_init_143 rfl ?_
  refine ex_sipush (w := 600) (pc := 144) d_Md_init_144 (by decide) ?_
  refine ex_newI (pc := 147) d_Md_init_147 rfl (by decide) (by decide) (fun k83 => ?_)
  replace h := h _ _ rfl rfl
  obtain ⟨k84, h⟩ := h
  refine ex_putR (pc := 149) d_Md_init_149 rfl rfl k84 ?_
  replace h := h _ rfl
  refine ex_aload_n (pc := 152) d_Md_init_152 rfl ?_
  refine ex_sipush (w := 600) (pc := 153) d_Md_init_153 (by decide) ?_
  refine ex_newI (pc := 156) d_Md_init_156 rfl (by decide) (by decide) (fun k88 => ?_)
  replace h := h _ _ rfl rfl
  obtain ⟨k89, h⟩ := h
  refine ex_putR (pc := 158) d_Md_init_158 rfl rfl k89 ?_
  replace h := h _ rfl
  refine ex_aload_n (pc := 161) d_Md_init_161 rfl ?_
  refine ex_sipush (w := 600) (pc := 162) d_Md_init_162 (by decide) ?_
  refine ex_newI (pc := 165) d_Md_init_165 rfl (by decide) (by decide) (fun k93 => ?_)
  replace h := h _ _ rfl rfl
  obtain ⟨k94, h⟩ := h
  refine ex_putR (pc := 167) d_Md_init_167 rfl rfl k94 ?_
  replace h := h _ rfl
  refine ex_aload_n (pc := 170) d_Md_init_170 rfl ?_
  refine ex_sipush (w := 600) (pc := 171) d_Md_init_171 (by decide) ?_
  refine ex_newI (pc := 174) d_Md_init_174 rfl (by decide) (by decide) (fun k98 => ?_)
  replace h := h _ _ rfl rfl
  obtain ⟨k99, h⟩ := h
  refine ex_putR (pc := 176) d_Md_init_176 rfl rfl k99 ?_
  replace h := h _ rfl
  refine ex_aload_n (pc := 179) d_Md_init_179 rfl ?_
  refine ex_sipush (w := 600) (pc := 180) d_Md_init_180 (by decide) ?_
  refine ex_newI (pc := 183) d_Md_init_183 rfl (by decide) (by decide) (fun k103 => ?_)
  replace h := h _ _ rfl rfl
  obtain ⟨k104, h⟩ := h
  refine ex_putR (pc := 185) d_Md_init_185 rfl rfl k104 ?_
  replace h := h _ rfl
  refine ex_aload_n (pc := 188) d_Md_init_188 rfl ?_
  refine ex_sipush (w := 600) (pc := 189) d_Md_init_189 (by decide) ?_
  refine ex_newI (pc := 192) d_Md_init_192 rfl (by decide) (by decide) (fun k108 => ?_)
  replace h := h _ _ rfl rfl
  obtain ⟨k109, h⟩ := h
  refine ex_putR (pc := 194) d_Md_init_194 rfl rfl k109 ?_
  replace h := h _ rfl
  refine ex_aload_n (pc := 197) d_Md_init_197 rfl ?_
  refine ex_sipush (w := 600) (pc := 198) d_Md_init_198 (by decide) ?_
  refine ex_newI (pc := 201) d_Md_init_201 rfl (by decide) (by decide) (fun k113 => ?_)
  replace h := h _ _ rfl rfl
  obtain ⟨k114, h⟩ := h
  refine ex_putR (pc := 203) d_Md_init_203 rfl rfl k114 ?_
  replace h := h _ rfl
  refine ex_aload_n (pc := 206) d_Md_init_206 rfl ?_
  refine ex_sipush (w := 451) (pc := 207) d_Md_init_207 (by decide) ?_
  refine ex_newI (pc := 210) d_Md_init_210 rfl (by decide) (by decide) (fun k118 => ?_)
  replace h := h _ _ rfl rfl
  obtain ⟨k119, h⟩ := h
  refine ex_putR (pc := 212) d_Md_init_212 rfl rfl k119 ?_
  replace h := h _ rfl
  refine ex_aload_n (pc := 215) d_Md_init_215 rfl ?_
  refine ex_bipush (w := 30) (pc := 216) d_Md_init_216 (by decide) ?_
  refine ex_newI (pc := 218) d_Md_init_218 rfl (by decide) (by decide) (fun k123 => ?_)
  replace h := h _ _ rfl rfl
  obtain ⟨k124, h⟩ := h
  refine ex_putR (pc := 220) d_Md_init_220 rfl rfl k124 ?_
  replace h := h _ rfl
  refine ex_aload_n (pc := 223) d_Md_init_223 rfl ?_
  refine ex_iload_n (pc := 224) d_Md_init_224 rfl ?_
  refine ex_iconst (w := 4) (pc := 225) d_Md_init_225 (by decide) ?_
  refine ex_icmp_ge (tgt := 233) (pc := 226) d_Md_init_226 (by decide) (fun g => ?_) (fun g => ?_)
  · replace h := h.1 g
    refine ex_iconst (w := 5) (pc := 233) d_Md_init_233 (by decide) ?_
    refine ex_putI (pc := 234) d_Md_init_234 rfl rfl k124 ?_
    replace h := h _ rfl
    refine ex_aload_n (pc := 237) d_Md_init_237 rfl ?_
    refine ex_aload_n (pc := 238) d_Md_init_238 rfl ?_
    refine ex_getI (pc := 239) d_Md_init_239 rfl rfl (by decide) k124 ?_
    refine ex_iconst (w := 2) (pc := 242) d_Md_init_242 (by decide) ?_
    refine ex_idiv (pc := 243) d_Md_init_243 (by decide) ?_
    refine ex_putI (pc := 244) d_Md_init_244 rfl rfl k124 ?_
    replace h := h _ rfl
    refine ex_aload_n (pc := 247) d_Md_init_247 rfl ?_
    refine ex_bipush (w := 6) (pc := 248) d_Md_init_248 (by decide) ?_
    refine ex_aload_n (pc := 250) d_Md_init_250 rfl ?_
    refine ex_getI (pc := 251) d_Md_init_251 rfl rfl (by decide) k124 ?_
    refine ex_imul (pc := 254) d_Md_init_254 ?_
    refine ex_putI (pc := 255) d_Md_init_255 rfl rfl k124 ?_
    replace h := h _ rfl
    exact ex_ret_v (pc := 258) d_Md_init_258 rfl h
  · replace h := h.2 g
    refine ex_iconst (w := 3) (pc := 229) d_Md_init_229 (by decide) ?_
    refine ex_goto (tgt := 234) (pc := 230) d_Md_init_230 (by decide) ?_
    refine ex_putI (pc := 234) d_Md_init_234 rfl rfl k124 ?_
    replace h := h _ rfl
    refine ex_aload_n (pc := 237) d_Md_init_237 rfl ?_
    refine ex_aload_n (pc := 238) d_Md_init_238 rfl ?_
    refine ex_getI (pc := 239) d_Md_init_239 rfl rfl (by decide) k124 ?_
    refine ex_iconst (w := 2) (pc := 242) d_Md_init_242 (by decide) ?_
    refine ex_idiv (pc := 243) d_Md_init_243 (by decide) ?_
    refine ex_putI (pc := 244) d_Md_init_244 rfl rfl k124 ?_
    replace h := h _ rfl
    refine ex_aload_n (pc := 247) d_Md_init_247 rfl ?_
    refine ex_bipush (w := 6) (pc := 248) d_Md_init_248 (by decide) ?_
    refine ex_aload_n (pc := 250) d_Md_init_250 rfl ?_
    refine ex_getI (pc := 251) d_Md_init_251 rfl rfl (by decide) k124 ?_
    refine ex_imul (pc := 254) d_Md_init_254 ?_
    refine ex_putI (pc := 255) d_Md_init_255 rfl rfl k124 ?_
    replace h := h _ rfl
    exact ex_ret_v (pc := 258) d_Md_init_258 rfl h
theorem sg_Md_known_0 {h0 : Nat} {v1 : Int32} {v2 : Int32} {M : me_M} {Q : Option me_V → me_M → Prop} (h : ((v1 < 0) → Q (some (.inl 0)) M) ∧ ((¬ v1 < 0) → mKd M h0 = 11 ∧ (((mI M 1640 h0 0) ≤ v1) → Q (some (.inl 0)) M) ∧ ((¬ (mI M 1640 h0 0) ≤ v1) → ((v2 < 0) → Q (some (.inl 0)) M) ∧ ((¬ v2 < 0) → (((mI M 1642 h0 0) ≤ v2) → Q (some (.inl 0)) M) ∧ ((¬ (mI M 1642 h0 0) ≤ v2) → Q (some (.inl 1)) M))))) : EX eL X_Md_known 0 [some (.inr (some h0)), some (.inl v1), some (.inl v2)] [] M Q := by
  refine ex_iload_n (pc := 0) d_Md_known_0 rfl ?_
  refine ex_if_lt (tgt := 28) (pc := 1) d_Md_known_1 (by decide) (fun g => ?_) (fun g => ?_)
  · replace h := h.1 g
    refine ex_iconst (w := 0) (pc := 28) d_Md_known_28 (by decide) ?_
    exact ex_ret_z (pc := 29) d_Md_known_29 rfl (Or.inl rfl) h
  · replace h := h.2 g
    refine ex_iload_n (pc := 4) d_Md_known_4 rfl ?_
    refine ex_aload_n (pc := 5) d_Md_known_5 rfl ?_
    obtain ⟨k1, h⟩ := h
    refine ex_getI (pc := 6) d_Md_known_6 rfl rfl (by decide) k1 ?_
    refine ex_icmp_ge (tgt := 28) (pc := 9) d_Md_known_9 (by decide) (fun g => ?_) (fun g => ?_)
    · replace h := h.1 g
      refine ex_iconst (w := 0) (pc := 28) d_Md_known_28 (by decide) ?_
      exact ex_ret_z (pc := 29) d_Md_known_29 rfl (Or.inl rfl) h
    · replace h := h.2 g
      refine ex_iload_n (pc := 12) d_Md_known_12 rfl ?_
      refine ex_if_lt (tgt := 28) (pc := 13) d_Md_known_13 (by decide) (fun g => ?_) (fun g => ?_)
      · replace h := h.1 g
        refine ex_iconst (w := 0) (pc := 28) d_Md_known_28 (by decide) ?_
        exact ex_ret_z (pc := 29) d_Md_known_29 rfl (Or.inl rfl) h
      · replace h := h.2 g
        refine ex_iload_n (pc := 16) d_Md_known_16 rfl ?_
        refine ex_aload_n (pc := 17) d_Md_known_17 rfl ?_
        refine ex_getI (pc := 18) d_Md_known_18 rfl rfl (by decide) k1 ?_
        refine ex_icmp_ge (tgt := 28) (pc := 21) d_Md_known_21 (by decide) (fun g => ?_) (fun g => ?_)
        · replace h := h.1 g
          refine ex_iconst (w := 0) (pc := 28) d_Md_known_28 (by decide) ?_
          exact ex_ret_z (pc := 29) d_Md_known_29 rfl (Or.inl rfl) h
        · replace h := h.2 g
          refine ex_iconst (w := 1) (pc := 24) d_Md_known_24 (by decide) ?_
          refine ex_goto (tgt := 29) (pc := 25) d_Md_known_25 (by decide) ?_
          exact ex_ret_z (pc := 29) d_Md_known_29 rfl (Or.inr rfl) h
theorem sg_Md_interfere_0 {v0 : Int32} {v1 : Int32} {M : me_M} {Q : Option me_V → me_M → Prop} (h : ((v0 = 8) → Q (some (.inl 1)) M) ∧ ((¬ v0 = 8) → ((¬ v1 = 8) → ((¬ (v0 &&& 3) = (v1 &&& 3)) → Q (some (.inl 0)) M) ∧ (((v0 &&& 3) = (v1 &&& 3)) → ((4 ≤ v0) → Q (some (.inl 1)) M) ∧ ((¬ 4 ≤ v0) → ((v1 < 4) → Q (some (.inl 0)) M) ∧ ((¬ v1 < 4) → Q (some (.inl 1)) M)))) ∧ ((v1 = 8) → Q (some (.inl 1)) M))) : EX eL X_Md_interfere 0 [some (.inl v0), some (.inl v1)] [] M Q := by
  refine ex_iload_n (pc := 0) d_Md_interfere_0 rfl ?_
  refine ex_bipush (w := 8) (pc := 1) d_Md_interfere_1 (by decide) ?_
  refine ex_icmp_eq (tgt := 12) (pc := 3) d_Md_interfere_3 (by decide) (fun g => ?_) (fun g => ?_)
  · replace h := h.1 g
    refine ex_iconst (w := 1) (pc := 12) d_Md_interfere_12 (by decide) ?_
    exact ex_ret_z (pc := 13) d_Md_interfere_13 rfl (Or.inr rfl) h
  · replace h := h.2 g
    refine ex_iload_n (pc := 6) d_Md_interfere_6 rfl ?_
    refine ex_bipush (w := 8) (pc := 7) d_Md_interfere_7 (by decide) ?_
    refine ex_icmp_ne (tgt := 14) (pc := 9) d_Md_interfere_9 (by decide) (fun g => ?_) (fun g => ?_)
    · replace h := h.1 g
      refine ex_iload_n (pc := 14) d_Md_interfere_14 rfl ?_
      refine ex_iconst (w := 3) (pc := 15) d_Md_interfere_15 (by decide) ?_
      refine ex_iand (pc := 16) d_Md_interfere_16 ?_
      refine ex_iload_n (pc := 17) d_Md_interfere_17 rfl ?_
      refine ex_iconst (w := 3) (pc := 18) d_Md_interfere_18 (by decide) ?_
      refine ex_iand (pc := 19) d_Md_interfere_19 ?_
      refine ex_icmp_ne (tgt := 37) (pc := 20) d_Md_interfere_20 (by decide) (fun g => ?_) (fun g => ?_)
      · replace h := h.1 g
        refine ex_iconst (w := 0) (pc := 37) d_Md_interfere_37 (by decide) ?_
        exact ex_ret_z (pc := 38) d_Md_interfere_38 rfl (Or.inl rfl) h
      · replace h := h.2 g
        refine ex_iload_n (pc := 23) d_Md_interfere_23 rfl ?_
        refine ex_iconst (w := 4) (pc := 24) d_Md_interfere_24 (by decide) ?_
        refine ex_icmp_ge (tgt := 33) (pc := 25) d_Md_interfere_25 (by decide) (fun g => ?_) (fun g => ?_)
        · replace h := h.1 g
          refine ex_iconst (w := 1) (pc := 33) d_Md_interfere_33 (by decide) ?_
          refine ex_goto (tgt := 38) (pc := 34) d_Md_interfere_34 (by decide) ?_
          exact ex_ret_z (pc := 38) d_Md_interfere_38 rfl (Or.inr rfl) h
        · replace h := h.2 g
          refine ex_iload_n (pc := 28) d_Md_interfere_28 rfl ?_
          refine ex_iconst (w := 4) (pc := 29) d_Md_interfere_29 (by decide) ?_
          refine ex_icmp_lt (tgt := 37) (pc := 30) d_Md_interfere_30 (by decide) (fun g => ?_) (fun g => ?_)
          · replace h := h.1 g
            refine ex_iconst (w := 0) (pc := 37) d_Md_interfere_37 (by decide) ?_
            exact ex_ret_z (pc := 38) d_Md_interfere_38 rfl (Or.inl rfl) h
          · replace h := h.2 g
            refine ex_iconst (w := 1) (pc := 33) d_Md_interfere_33 (by decide) ?_
            refine ex_goto (tgt := 38) (pc := 34) d_Md_interfere_34 (by decide) ?_
            exact ex_ret_z (pc := 38) d_Md_interfere_38 rfl (Or.inr rfl) h
    · replace h := h.2 g
      refine ex_iconst (w := 1) (pc := 12) d_Md_interfere_12 (by decide) ?_
      exact ex_ret_z (pc := 13) d_Md_interfere_13 rfl (Or.inr rfl) h
theorem sg_Md_related_0 {h0 : Nat} {v1 : Int32} {v2 : Int32} {v3 : Int32} {v4 : Int32} {M : me_M} {Q : Option me_V → me_M → Prop} (h : ∀ x1, x1 = ((30 * v1) + v3) → ((v3 = v2) → Q (some (.inl 0)) M) ∧ ((¬ v3 = v2) → mKd M h0 = 11 ∧ ∃ q3, (mR M 1646 h0 0) = some q3 ∧ mKd M q3 = 100 ∧ vp_in x1 (mLn M q3) ∧ (((mI M 100 q3 x1.toNatClampNeg) = 0) → Q (some (.inl 0)) M) ∧ ((¬ (mI M 100 q3 x1.toNatClampNeg) = 0) → ∃ q7, (mR M 1647 h0 0) = some q7 ∧ mKd M q7 = 100 ∧ vp_in x1 (mLn M q7) ∧ EX eL X_Md_interfere 0 [some (.inl (mI M 100 q7 x1.toNatClampNeg)), some (.inl v4)] [] M (fun r12 M11 => ∃ x13, r12 = some (.inl x13) ∧ ((x13 = 0) → Q (some (.inl 0)) M11) ∧ ((¬ x13 = 0) → Q (some (.inl 1)) M11))))) : EX eL X_Md_related 0 [some (.inr (some h0)), some (.inl v1), some (.inl v2), some (.inl v3), some (.inl v4), none] [] M Q := by
  refine ex_bipush (w := 30) (pc := 0) d_Md_related_0 (by decide) ?_
  refine ex_iload_n (pc := 2) d_Md_related_2 rfl ?_
  refine ex_imul (pc := 3) d_Md_related_3 ?_
  refine ex_iload_n (pc := 4) d_Md_related_4 rfl ?_
  refine ex_iadd (pc := 5) d_Md_related_5 ?_
  refine ex_istore (ls2 := [_, _, _, _, _, _]) (pc := 6) d_Md_related_6 (Nat.le_of_ble_eq_true rfl) rfl ?_
  replace h := h _ rfl
  refine ex_iload_n (pc := 8) d_Md_related_8 rfl ?_
  refine ex_iload_n (pc := 9) d_Md_related_9 rfl ?_
  refine ex_icmp_eq (tgt := 42) (pc := 10) d_Md_related_10 (by decide) (fun g => ?_) (fun g => ?_)
  · replace h := h.1 g
    refine ex_iconst (w := 0) (pc := 42) d_Md_related_42 (by decide) ?_
    exact ex_ret_z (pc := 43) d_Md_related_43 rfl (Or.inl rfl) h
  · replace h := h.2 g
    refine ex_aload_n (pc := 13) d_Md_related_13 rfl ?_
    obtain ⟨k2, h⟩ := h
    refine ex_getR (pc := 14) d_Md_related_14 rfl rfl k2 ?_
    refine ex_iload (pc := 17) d_Md_related_17 rfl ?_
    obtain ⟨q3, e4, h⟩ := h
    obtain ⟨k5, h⟩ := h
    obtain ⟨b6, h⟩ := h
    refine ex_iald (pc := 19) d_Md_related_19 e4 k5 b6 ?_
    refine ex_if_eq (tgt := 42) (pc := 20) d_Md_related_20 (by decide) (fun g => ?_) (fun g => ?_)
    · replace h := h.1 g
      refine ex_iconst (w := 0) (pc := 42) d_Md_related_42 (by decide) ?_
      exact ex_ret_z (pc := 43) d_Md_related_43 rfl (Or.inl rfl) h
    · replace h := h.2 g
      refine ex_aload_n (pc := 23) d_Md_related_23 rfl ?_
      refine ex_getR (pc := 24) d_Md_related_24 rfl rfl k2 ?_
      refine ex_iload (pc := 27) d_Md_related_27 rfl ?_
      obtain ⟨q7, e8, h⟩ := h
      obtain ⟨k9, h⟩ := h
      obtain ⟨b10, h⟩ := h
      refine ex_iald (pc := 29) d_Md_related_29 e8 k9 b10 ?_
      refine ex_iload (pc := 30) d_Md_related_30 rfl ?_
      refine ex_cSI (as := [_, _]) (st := []) (pc := 32) rfl rfl rfl rfl (Nat.le_of_ble_eq_true rfl) (EX.mono h fun r12 M11 h => ?_)
      obtain ⟨x13, rfl, h⟩ := h
      refine ⟨_, rfl, ?_⟩
      refine ex_if_eq (tgt := 42) (pc := 35) d_Md_related_35 (by decide) (fun g => ?_) (fun g => ?_)
      · replace h := h.1 g
        refine ex_iconst (w := 0) (pc := 42) d_Md_related_42 (by decide) ?_
        exact ex_ret_z (pc := 43) d_Md_related_43 rfl (Or.inl rfl) h
      · replace h := h.2 g
        refine ex_iconst (w := 1) (pc := 38) d_Md_related_38 (by decide) ?_
        refine ex_goto (tgt := 43) (pc := 39) d_Md_related_39 (by decide) ?_
        exact ex_ret_z (pc := 43) d_Md_related_43 rfl (Or.inr rfl) h
theorem sg_Md_put_0 {h0 : Nat} {v1 : Int32} {v2 : Int32} {v3 : Int32} {v4 : Int32} {M : me_M} {Q : Option me_V → me_M → Prop} (h : mKd M h0 = 11 ∧ ∃ q2, (mR M 1646 h0 0) = some q2 ∧ mKd M q2 = 100 ∧ vp_in v1 (mLn M q2) ∧ ∀ M6, M6 = mSetI M 100 q2 v1.toNatClampNeg v2 → ∃ q7, (mR M6 1647 h0 0) = some q7 ∧ mKd M6 q7 = 100 ∧ vp_in v1 (mLn M6 q7) ∧ ∀ M11, M11 = mSetI M6 100 q7 v1.toNatClampNeg v3 → ∃ q12, (mR M11 1648 h0 0) = some q12 ∧ mKd M11 q12 = 100 ∧ vp_in v1 (mLn M11 q12) ∧ ∀ M16, M16 = mSetI M11 100 q12 v1.toNatClampNeg v4 → Q none M16) : EX eL X_Md_put 0 [some (.inr (some h0)), some (.inl v1), some (.inl v2), some (.inl v3), some (.inl v4)] [] M Q := by
  refine ex_aload_n (pc := 0) d_Md_put_0 rfl ?_
  obtain ⟨k1, h⟩ := h
  refine ex_getR (pc := 1) d_Md_put_1 rfl rfl k1 ?_
  refine ex_iload_n (pc := 4) d_Md_put_4 rfl ?_
  refine ex_iload_n (pc := 5) d_Md_put_5 rfl ?_
  obtain ⟨q2, e3, h⟩ := h
  obtain ⟨k4, h⟩ := h
  obtain ⟨b5, h⟩ := h
  refine ex_iast (pc := 6) d_Md_put_6 e3 k4 b5 ?_
  replace h := h _ rfl
  refine ex_aload_n (pc := 7) d_Md_put_7 rfl ?_
  refine ex_getR (pc := 8) d_Md_put_8 rfl rfl k1 ?_
  refine ex_iload_n (pc := 11) d_Md_put_11 rfl ?_
  refine ex_iload_n (pc := 12) d_Md_put_12 rfl ?_
  obtain ⟨q7, e8, h⟩ := h
  obtain ⟨k9, h⟩ := h
  obtain ⟨b10, h⟩ := h
  refine ex_iast (pc := 13) d_Md_put_13 e8 k9 b10 ?_
  replace h := h _ rfl
  refine ex_aload_n (pc := 14) d_Md_put_14 rfl ?_
  refine ex_getR (pc := 15) d_Md_put_15 rfl rfl k1 ?_
  refine ex_iload_n (pc := 18) d_Md_put_18 rfl ?_
  refine ex_iload (pc := 19) d_Md_put_19 rfl ?_
  obtain ⟨q12, e13, h⟩ := h
  obtain ⟨k14, h⟩ := h
  obtain ⟨b15, h⟩ := h
  refine ex_iast (pc := 21) d_Md_put_21 e13 k14 b15 ?_
  replace h := h _ rfl
  exact ex_ret_v (pc := 22) d_Md_put_22 rfl h
theorem sg_Md_fit_0 {h0 : Nat} {v1 : Int32} {v2 : Int32} {v3 : Int32} {v4 : Int32} {v5 : Int32} {v6 : Int32} {M : me_M} {Q : Option me_V → me_M → Prop} (h : EX eL X_Md_fit 11 [some (.inr (some h0)), some (.inl v1), some (.inl v2), some (.inl v3), some (.inl v4), none, none, some (.inl v5), some (.inl v6), some (.inl 0)] [] M Q) : EX eL X_Md_fit 0 [some (.inr (some h0)), some (.inl v1), some (.inl v2), some (.inl v3), some (.inl v4), some (.inl v5), some (.inl v6), none, none, none] [] M Q := by
  refine ex_iload (pc := 0) d_Md_fit_0 rfl ?_
  refine ex_istore (ls2 := [_, _, _, _, _, _, _, _, _, _]) (pc := 2) d_Md_fit_2 (Nat.le_of_ble_eq_true rfl) rfl ?_
  refine ex_iload (pc := 4) d_Md_fit_4 rfl ?_
  refine ex_istore (ls2 := [_, _, _, _, _, _, _, _, _, _]) (pc := 6) d_Md_fit_6 (Nat.le_of_ble_eq_true rfl) rfl ?_
  refine ex_iconst (w := 0) (pc := 8) d_Md_fit_8 (by decide) ?_
  refine ex_istore (ls2 := [_, _, _, _, _, _, _, _, _, _]) (pc := 9) d_Md_fit_9 (Nat.le_of_ble_eq_true rfl) rfl ?_
  refine ex_drop (k := 5) (ls2 := [_, _, _, _, _, _, _, _, _, _]) rfl ?_
  refine ex_drop (k := 6) (ls2 := [_, _, _, _, _, _, _, _, _, _]) rfl ?_
  exact h
theorem sg_Md_fit_11 {h0 : Nat} {v1 : Int32} {v2 : Int32} {v3 : Int32} {v4 : Int32} {v7 : Int32} {v8 : Int32} {v9 : Int32} {M : me_M} {Q : Option me_V → me_M → Prop} (h : mKd M h0 = 11 ∧ (((mI M 1642 h0 0) ≤ v9) → EX eL X_Md_put 0 [some (.inr (some h0)), some (.inl ((30 * v1) + v2)), some (.inl 1), some (.inl v3), some (.inl v4)] [] M (fun r3 M2 => r3 = none ∧ mKd M2 h0 = 11 ∧ ∃ q5, (mR M2 1649 h0 0) = some q5 ∧ mKd M2 q5 = 100 ∧ vp_in ((30 * v1) + v2) (mLn M2 q5) ∧ ∀ M9, M9 = mSetI M2 100 q5 ((30 * v1) + v2).toNatClampNeg v7 → ∃ q10, (mR M9 1650 h0 0) = some q10 ∧ mKd M9 q10 = 100 ∧ vp_in ((30 * v1) + v2) (mLn M9 q10) ∧ ∀ M14, M14 = mSetI M9 100 q10 ((30 * v1) + v2).toNatClampNeg v8 → Q none M14)) ∧ ((¬ (mI M 1642 h0 0) ≤ v9) → EX eL X_Md_related 0 [some (.inr (some h0)), some (.inl v1), some (.inl v2), some (.inl v9), some (.inl v3), none] [] M (fun r16 M15 => ∃ x17, r16 = some (.inl x17) ∧ ((x17 = 0) → ∀ x18, x18 = v9 + Int32.ofInt 1 → EX eL X_Md_fit 11 [some (.inr (some h0)), some (.inl v1), some (.inl v2), some (.inl v3), some (.inl v4), none, none, some (.inl v7), some (.inl v8), some (.inl x18)] [] M15 Q) ∧ ((¬ x17 = 0) → mKd M15 h0 = 11 ∧ ∃ q20, (mR M15 1649 h0 0) = some q20 ∧ mKd M15 q20 = 100 ∧ vp_in ((30 * v1) + v9) (mLn M15 q20) ∧ (((mI M15 100 q20 ((30 * v1) + v9).toNatClampNeg) < v7) → ∀ x24, x24 = (v8 ||| (1 <<< (v9 &&& 31))) → ∀ x25, x25 = v9 + Int32.ofInt 1 → EX eL X_Md_fit 11 [some (.inr (some h0)), some (.inl v1), some (.inl v2), some (.inl v3), some (.inl v4), none, none, some (.inl v7), some (.inl x24), some (.inl x25)] [] M15 Q) ∧ ((¬ (mI M15 100 q20 ((30 * v1) + v9).toNatClampNeg) < v7) → vp_in ((30 * v1) + v9) (mLn M15 q20) ∧ ∀ x27, x27 = ((mI M15 100 q20 ((30 * v1) + v9).toNatClampNeg) + 1) → ∀ x28, x28 = (v8 ||| (1 <<< (v9 &&& 31))) → ∀ x29, x29 = v9 + Int32.ofInt 1 → EX eL X_Md_fit 11 [some (.inr (some h0)), some (.inl v1), some (.inl v2), some (.inl v3), some (.inl v4), none, none, some (.inl x27), some (.inl x28), some (.inl x29)] [] M15 Q))))) : EX eL X_Md_fit 11 [some (.inr (some h0)), some (.inl v1), some (.inl v2), some (.inl v3), some (.inl v4), none, none, some (.inl v7), some (.inl v8), some (.inl v9)] [] M Q := by
  refine ex_iload (pc := 11) d_Md_fit_11 rfl ?_
  refine ex_aload_n (pc := 13) d_Md_fit_13 rfl ?_
  obtain ⟨k1, h⟩ := h
  refine ex_getI (pc := 14) d_Md_fit_14 rfl rfl (by decide) k1 ?_
  refine ex_icmp_ge (tgt := 85) (pc := 17) d_Md_fit_17 (by decide) (fun g => ?_) (fun g => ?_)
  · replace h := h.1 g
    refine ex_aload_n (pc := 85) d_Md_fit_85 rfl ?_
    refine ex_bipush (w := 30) (pc := 86) d_Md_fit_86 (by decide) ?_
    refine ex_iload_n (pc := 88) d_Md_fit_88 rfl ?_
    refine ex_imul (pc := 89) d_Md_fit_89 ?_
    refine ex_iload_n (pc := 90) d_Md_fit_90 rfl ?_
    refine ex_iadd (pc := 91) d_Md_fit_91 ?_
    refine ex_iconst (w := 1) (pc := 92) d_Md_fit_92 (by decide) ?_
    refine ex_iload_n (pc := 93) d_Md_fit_93 rfl ?_
    refine ex_iload (pc := 94) d_Md_fit_94 rfl ?_
    refine ex_cVV (as := [_, _, _, _]) (st := []) (pc := 96) rfl rfl k1 rfl rfl rfl (Nat.le_of_ble_eq_true rfl) (EX.mono h fun r3 M2 h => ?_)
    obtain ⟨rfl, h⟩ := h
    refine ⟨rfl, ?_⟩
    refine ex_aload_n (pc := 99) d_Md_fit_99 rfl ?_
    obtain ⟨k4, h⟩ := h
    refine ex_getR (pc := 100) d_Md_fit_100 rfl rfl k4 ?_
    refine ex_bipush (w := 30) (pc := 103) d_Md_fit_103 (by decide) ?_
    refine ex_iload_n (pc := 105) d_Md_fit_105 rfl ?_
    refine ex_imul (pc := 106) d_Md_fit_106 ?_
    refine ex_iload_n (pc := 107) d_Md_fit_107 rfl ?_
    refine ex_iadd (pc := 108) d_Md_fit_108 ?_
    refine ex_iload (pc := 109) d_Md_fit_109 rfl ?_
    obtain ⟨q5, e6, h⟩ := h
    obtain ⟨k7, h⟩ := h
    obtain ⟨b8, h⟩ := h
    refine ex_iast (pc := 111) d_Md_fit_111 e6 k7 b8 ?_
    replace h := h _ rfl
    refine ex_aload_n (pc := 112) d_Md_fit_112 rfl ?_
    refine ex_getR (pc := 113) d_Md_fit_113 rfl rfl k4 ?_
    refine ex_bipush (w := 30) (pc := 116) d_Md_fit_116 (by decide) ?_
    refine ex_iload_n (pc := 118) d_Md_fit_118 rfl ?_
    refine ex_imul (pc := 119) d_Md_fit_119 ?_
    refine ex_iload_n (pc := 120) d_Md_fit_120 rfl ?_
    refine ex_iadd (pc := 121) d_Md_fit_121 ?_
    refine ex_iload (pc := 122) d_Md_fit_122 rfl ?_
    obtain ⟨q10, e11, h⟩ := h
    obtain ⟨k12, h⟩ := h
    obtain ⟨b13, h⟩ := h
    refine ex_iast (pc := 124) d_Md_fit_124 e11 k12 b13 ?_
    replace h := h _ rfl
    exact ex_ret_v (pc := 125) d_Md_fit_125 rfl h
  · replace h := h.2 g
    refine ex_aload_n (pc := 20) d_Md_fit_20 rfl ?_
    refine ex_iload_n (pc := 21) d_Md_fit_21 rfl ?_
    refine ex_iload_n (pc := 22) d_Md_fit_22 rfl ?_
    refine ex_iload (pc := 23) d_Md_fit_23 rfl ?_
    refine ex_iload_n (pc := 25) d_Md_fit_25 rfl ?_
    refine ex_cVI (as := [_, _, _, _]) (st := []) (pc := 26) rfl rfl k1 rfl rfl rfl (Nat.le_of_ble_eq_true rfl) (EX.mono h fun r16 M15 h => ?_)
    obtain ⟨x17, rfl, h⟩ := h
    refine ⟨_, rfl, ?_⟩
    refine ex_if_eq (tgt := 79) (pc := 29) d_Md_fit_29 (by decide) (fun g => ?_) (fun g => ?_)
    · replace h := h.1 g
      refine ex_iinc (ls2 := [_, _, _, _, _, _, _, _, _, _]) (pc := 79) d_Md_fit_79 rfl rfl ?_
      replace h := h _ rfl
      refine ex_goto (tgt := 11) (pc := 82) d_Md_fit_82 (by decide) ?_
      exact h
    · replace h := h.2 g
      refine ex_aload_n (pc := 32) d_Md_fit_32 rfl ?_
      obtain ⟨k19, h⟩ := h
      refine ex_getR (pc := 33) d_Md_fit_33 rfl rfl k19 ?_
      refine ex_bipush (w := 30) (pc := 36) d_Md_fit_36 (by decide) ?_
      refine ex_iload_n (pc := 38) d_Md_fit_38 rfl ?_
      refine ex_imul (pc := 39) d_Md_fit_39 ?_
      refine ex_iload (pc := 40) d_Md_fit_40 rfl ?_
      refine ex_iadd (pc := 42) d_Md_fit_42 ?_
      obtain ⟨q20, e21, h⟩ := h
      obtain ⟨k22, h⟩ := h
      obtain ⟨b23, h⟩ := h
      refine ex_iald (pc := 43) d_Md_fit_43 e21 k22 b23 ?_
      refine ex_iload (pc := 44) d_Md_fit_44 rfl ?_
      refine ex_icmp_lt (tgt := 66) (pc := 46) d_Md_fit_46 (by decide) (fun g => ?_) (fun g => ?_)
      · replace h := h.1 g
        refine ex_iload (pc := 66) d_Md_fit_66 rfl ?_
        refine ex_istore (ls2 := [_, _, _, _, _, _, _, _, _, _]) (pc := 68) d_Md_fit_68 (Nat.le_of_ble_eq_true rfl) rfl ?_
        refine ex_iload (pc := 70) d_Md_fit_70 rfl ?_
        refine ex_iconst (w := 1) (pc := 72) d_Md_fit_72 (by decide) ?_
        refine ex_iload (pc := 73) d_Md_fit_73 rfl ?_
        refine ex_ishl (pc := 75) d_Md_fit_75 ?_
        refine ex_ior (pc := 76) d_Md_fit_76 ?_
        refine ex_istore (ls2 := [_, _, _, _, _, _, _, _, _, _]) (pc := 77) d_Md_fit_77 (Nat.le_of_ble_eq_true rfl) rfl ?_
        replace h := h _ rfl
        refine ex_iinc (ls2 := [_, _, _, _, _, _, _, _, _, _]) (pc := 79) d_Md_fit_79 rfl rfl ?_
        replace h := h _ rfl
        refine ex_goto (tgt := 11) (pc := 82) d_Md_fit_82 (by decide) ?_
        exact h
      · replace h := h.2 g
        refine ex_aload_n (pc := 49) d_Md_fit_49 rfl ?_
        refine ex_getR (pc := 50) d_Md_fit_50 rfl rfl k19 ?_
        refine ex_bipush (w := 30) (pc := 53) d_Md_fit_53 (by decide) ?_
        refine ex_iload_n (pc := 55) d_Md_fit_55 rfl ?_
        refine ex_imul (pc := 56) d_Md_fit_56 ?_
        refine ex_iload (pc := 57) d_Md_fit_57 rfl ?_
        refine ex_iadd (pc := 59) d_Md_fit_59 ?_
        obtain ⟨b26, h⟩ := h
        refine ex_iald (pc := 60) d_Md_fit_60 e21 k22 b26 ?_
        refine ex_iconst (w := 1) (pc := 61) d_Md_fit_61 (by decide) ?_
        refine ex_iadd (pc := 62) d_Md_fit_62 ?_
        refine ex_goto (tgt := 68) (pc := 63) d_Md_fit_63 (by decide) ?_
        refine ex_istore (ls2 := [_, _, _, _, _, _, _, _, _, _]) (pc := 68) d_Md_fit_68 (Nat.le_of_ble_eq_true rfl) rfl ?_
        replace h := h _ rfl
        refine ex_iload (pc := 70) d_Md_fit_70 rfl ?_
        refine ex_iconst (w := 1) (pc := 72) d_Md_fit_72 (by decide) ?_
        refine ex_iload (pc := 73) d_Md_fit_73 rfl ?_
        refine ex_ishl (pc := 75) d_Md_fit_75 ?_
        refine ex_ior (pc := 76) d_Md_fit_76 ?_
        refine ex_istore (ls2 := [_, _, _, _, _, _, _, _, _, _]) (pc := 77) d_Md_fit_77 (Nat.le_of_ble_eq_true rfl) rfl ?_
        replace h := h _ rfl
        refine ex_iinc (ls2 := [_, _, _, _, _, _, _, _, _, _]) (pc := 79) d_Md_fit_79 rfl rfl ?_
        replace h := h _ rfl
        refine ex_goto (tgt := 11) (pc := 82) d_Md_fit_82 (by decide) ?_
        exact h
theorem sg_Md_send_0 {h0 : Nat} {v1 : Int32} {v2 : Int32} {v3 : Int32} {v4 : Int32} {v5 : Int32} {M : me_M} {Q : Option me_V → me_M → Prop} (h : mKd M h0 = 11 ∧ ((¬ (mI M 1666 h0 0) = 40) → ∀ x2, x2 = ((30 * v2) + v4) → ∀ x3, x3 = (11 * (mI M 1666 h0 0)) → ∃ q4, (mR M 1668 h0 0) = some q4 ∧ mKd M q4 = 100 ∧ vp_in x3 (mLn M q4) ∧ ∀ M8, M8 = mSetI M 100 q4 x3.toNatClampNeg v1 → ∃ q9, (mR M8 1668 h0 0) = some q9 ∧ mKd M8 q9 = 100 ∧ vp_in (x3 + 1) (mLn M8 q9) ∧ ∀ M13, M13 = mSetI M8 100 q9 (x3 + 1).toNatClampNeg v2 → ∃ q14, (mR M13 1668 h0 0) = some q14 ∧ mKd M13 q14 = 100 ∧ vp_in (x3 + 2) (mLn M13 q14) ∧ ∀ M18, M18 = mSetI M13 100 q14 (x3 + 2).toNatClampNeg v3 → ∃ q19, (mR M18 1668 h0 0) = some q19 ∧ mKd M18 q19 = 100 ∧ vp_in (x3 + 3) (mLn M18 q19) ∧ ∀ M23, M23 = mSetI M18 100 q19 (x3 + 3).toNatClampNeg v4 → ∃ q24, (mR M23 1668 h0 0) = some q24 ∧ mKd M23 q24 = 100 ∧ vp_in (x3 + 4) (mLn M23 q24) ∧ ∀ M28, M28 = mSetI M23 100 q24 (x3 + 4).toNatClampNeg v5 → ∃ q29, (mR M28 1647 h0 0) = some q29 ∧ mKd M28 q29 = 100 ∧ vp_in x2 (mLn M28 q29) ∧ ∃ q33, (mR M28 1668 h0 0) = some q33 ∧ mKd M28 q33 = 100 ∧ vp_in (x3 + 5) (mLn M28 q33) ∧ ∀ M37, M37 = mSetI M28 100 q33 (x3 + 5).toNatClampNeg (mI M28 100 q29 x2.toNatClampNeg) → ∃ q38, (mR M37 1648 h0 0) = some q38 ∧ mKd M37 q38 = 100 ∧ vp_in x2 (mLn M37 q38) ∧ ∃ q42, (mR M37 1668 h0 0) = some q42 ∧ mKd M37 q42 = 100 ∧ vp_in (x3 + 6) (mLn M37 q42) ∧ ∀ M46, M46 = mSetI M37 100 q42 (x3 + 6).toNatClampNeg (mI M37 100 q38 x2.toNatClampNeg) → ∃ q47, (mR M46 1649 h0 0) = some q47 ∧ mKd M46 q47 = 100 ∧ vp_in x2 (mLn M46 q47) ∧ ∃ q51, (mR M46 1668 h0 0) = some q51 ∧ mKd M46 q51 = 100 ∧ vp_in (x3 + 7) (mLn M46 q51) ∧ ∀ M55, M55 = mSetI M46 100 q51 (x3 + 7).toNatClampNeg (mI M46 100 q47 x2.toNatClampNeg) → ∃ q56, (mR M55 1650 h0 0) = some q56 ∧ mKd M55 q56 = 100 ∧ vp_in x2 (mLn M55 q56) ∧ ∃ q60, (mR M55 1668 h0 0) = some q60 ∧ mKd M55 q60 = 100 ∧ vp_in (x3 + 8) (mLn M55 q60) ∧ ∀ M64, M64 = mSetI M55 100 q60 (x3 + 8).toNatClampNeg (mI M55 100 q56 x2.toNatClampNeg) → ∃ q65, (mR M64 1646 h0 0) = some q65 ∧ mKd M64 q65 = 100 ∧ vp_in x2 (mLn M64 q65) ∧ ∃ q69, (mR M64 1668 h0 0) = some q69 ∧ mKd M64 q69 = 100 ∧ vp_in (x3 + 9) (mLn M64 q69) ∧ ∀ M73, M73 = mSetI M64 100 q69 (x3 + 9).toNatClampNeg (mI M64 100 q65 x2.toNatClampNeg) → ∃ q74, (mR M73 1652 h0 0) = some q74 ∧ mKd M73 q74 = 100 ∧ vp_in x2 (mLn M73 q74) ∧ ∃ q78, (mR M73 1668 h0 0) = some q78 ∧ mKd M73 q78 = 100 ∧ vp_in (x3 + 10) (mLn M73 q78) ∧ ∀ M82, M82 = mSetI M73 100 q78 (x3 + 10).toNatClampNeg (mI M73 100 q74 x2.toNatClampNeg) → ∀ M83, M83 = mSetI M82 1666 h0 0 ((mI M82 1666 h0 0) + 1) → Q none M83) ∧ (((mI M 1666 h0 0) = 40) → ∀ M84, M84 = mSetI M 1667 h0 0 ((mI M 1667 h0 0) + 1) → Q none M84)) : EX eL X_Md_send 0 [some (.inr (some h0)), some (.inl v1), some (.inl v2), some (.inl v3), some (.inl v4), some (.inl v5), none, none] [] M Q := by
  refine ex_aload_n (pc := 0) d_Md_send_0 rfl ?_
  obtain ⟨k1, h⟩ := h
  refine ex_getI (pc := 1) d_Md_send_1 rfl rfl (by decide) k1 ?_
  refine ex_bipush (w := 40) (pc := 4) d_Md_send_4 (by decide) ?_
  refine ex_icmp_ne (tgt := 20) (pc := 6) d_Md_send_6 (by decide) (fun g => ?_) (fun g => ?_)
  · replace h := h.1 g
    refine ex_bipush (w := 30) (pc := 20) d_Md_send_20 (by decide) ?_
    refine ex_iload_n (pc := 22) d_Md_send_22 rfl ?_
    refine ex_imul (pc := 23) d_Md_send_23 ?_
    refine ex_iload (pc := 24) d_Md_send_24 rfl ?_
    refine ex_iadd (pc := 26) d_Md_send_26 ?_
    refine ex_istore (ls2 := [_, _, _, _, _, _, _, _]) (pc := 27) d_Md_send_27 (Nat.le_of_ble_eq_true rfl) rfl ?_
    replace h := h _ rfl
    refine ex_bipush (w := 11) (pc := 29) d_Md_send_29 (by decide) ?_
    refine ex_aload_n (pc := 31) d_Md_send_31 rfl ?_
    refine ex_getI (pc := 32) d_Md_send_32 rfl rfl (by decide) k1 ?_
    refine ex_imul (pc := 35) d_Md_send_35 ?_
    refine ex_istore (ls2 := [_, _, _, _, _, _, _, _]) (pc := 36) d_Md_send_36 (Nat.le_of_ble_eq_true rfl) rfl ?_
    replace h := h _ rfl
    refine ex_aload_n (pc := 38) d_Md_send_38 rfl ?_
    refine ex_getR (pc := 39) d_Md_send_39 rfl rfl k1 ?_
    refine ex_iload (pc := 42) d_Md_send_42 rfl ?_
    refine ex_iload_n (pc := 44) d_Md_send_44 rfl ?_
    obtain ⟨q4, e5, h⟩ := h
    obtain ⟨k6, h⟩ := h
    obtain ⟨b7, h⟩ := h
    refine ex_iast (pc := 45) d_Md_send_45 e5 k6 b7 ?_
    replace h := h _ rfl
    refine ex_aload_n (pc := 46) d_Md_send_46 rfl ?_
    refine ex_getR (pc := 47) d_Md_send_47 rfl rfl k1 ?_
    refine ex_iload (pc := 50) d_Md_send_50 rfl ?_
    refine ex_iconst (w := 1) (pc := 52) d_Md_send_52 (by decide) ?_
    refine ex_iadd (pc := 53) d_Md_send_53 ?_
    refine ex_iload_n (pc := 54) d_Md_send_54 rfl ?_
    obtain ⟨q9, e10, h⟩ := h
    obtain ⟨k11, h⟩ := h
    obtain ⟨b12, h⟩ := h
    refine ex_iast (pc := 55) d_Md_send_55 e10 k11 b12 ?_
    replace h := h _ rfl
    refine ex_aload_n (pc := 56) d_Md_send_56 rfl ?_
    refine ex_getR (pc := 57) d_Md_send_57 rfl rfl k1 ?_
    refine ex_iload (pc := 60) d_Md_send_60 rfl ?_
    refine ex_iconst (w := 2) (pc := 62) d_Md_send_62 (by decide) ?_
    refine ex_iadd (pc := 63) d_Md_send_63 ?_
    refine ex_iload_n (pc := 64) d_Md_send_64 rfl ?_
    obtain ⟨q14, e15, h⟩ := h
    obtain ⟨k16, h⟩ := h
    obtain ⟨b17, h⟩ := h
    refine ex_iast (pc := 65) d_Md_send_65 e15 k16 b17 ?_
    replace h := h _ rfl
    refine ex_aload_n (pc := 66) d_Md_send_66 rfl ?_
    refine ex_getR (pc := 67) d_Md_send_67 rfl rfl k1 ?_
    refine ex_iload (pc := 70) d_Md_send_70 rfl ?_
    refine ex_iconst (w := 3) (pc := 72) d_Md_send_72 (by decide) ?_
    refine ex_iadd (pc := 73) d_Md_send_73 ?_
    refine ex_iload (pc := 74) d_Md_send_74 rfl ?_
    obtain ⟨q19, e20, h⟩ := h
    obtain ⟨k21, h⟩ := h
    obtain ⟨b22, h⟩ := h
    refine ex_iast (pc := 76) d_Md_send_76 e20 k21 b22 ?_
    replace h := h _ rfl
    refine ex_aload_n (pc := 77) d_Md_send_77 rfl ?_
    refine ex_getR (pc := 78) d_Md_send_78 rfl rfl k1 ?_
    refine ex_iload (pc := 81) d_Md_send_81 rfl ?_
    refine ex_iconst (w := 4) (pc := 83) d_Md_send_83 (by decide) ?_
    refine ex_iadd (pc := 84) d_Md_send_84 ?_
    refine ex_iload (pc := 85) d_Md_send_85 rfl ?_
    obtain ⟨q24, e25, h⟩ := h
    obtain ⟨k26, h⟩ := h
    obtain ⟨b27, h⟩ := h
    refine ex_iast (pc := 87) d_Md_send_87 e25 k26 b27 ?_
    replace h := h _ rfl
    refine ex_aload_n (pc := 88) d_Md_send_88 rfl ?_
    refine ex_getR (pc := 89) d_Md_send_89 rfl rfl k1 ?_
    refine ex_iload (pc := 92) d_Md_send_92 rfl ?_
    refine ex_iconst (w := 5) (pc := 94) d_Md_send_94 (by decide) ?_
    refine ex_iadd (pc := 95) d_Md_send_95 ?_
    refine ex_aload_n (pc := 96) d_Md_send_96 rfl ?_
    refine ex_getR (pc := 97) d_Md_send_97 rfl rfl k1 ?_
    refine ex_iload (pc := 100) d_Md_send_100 rfl ?_
    obtain ⟨q29, e30, h⟩ := h
    obtain ⟨k31, h⟩ := h
    obtain ⟨b32, h⟩ := h
    refine ex_iald (pc := 102) d_Md_send_102 e30 k31 b32 ?_
    obtain ⟨q33, e34, h⟩ := h
    obtain ⟨k35, h⟩ := h
    obtain ⟨b36, h⟩ := h
    refine ex_iast (pc := 103) d_Md_send_103 e34 k35 b36 ?_
    replace h := h _ rfl
    refine ex_aload_n (pc := 104) d_Md_send_104 rfl ?_
    refine ex_getR (pc := 105) d_Md_send_105 rfl rfl k1 ?_
    refine ex_iload (pc := 108) d_Md_send_108 rfl ?_
    refine ex_bipush (w := 6) (pc := 110) d_Md_send_110 (by decide) ?_
    refine ex_iadd (pc := 112) d_Md_send_112 ?_
    refine ex_aload_n (pc := 113) d_Md_send_113 rfl ?_
    refine ex_getR (pc := 114) d_Md_send_114 rfl rfl k1 ?_
    refine ex_iload (pc := 117) d_Md_send_117 rfl ?_
    obtain ⟨q38, e39, h⟩ := h
    obtain ⟨k40, h⟩ := h
    obtain ⟨b41, h⟩ := h
    refine ex_iald (pc := 119) d_Md_send_119 e39 k40 b41 ?_
    obtain ⟨q42, e43, h⟩ := h
    obtain ⟨k44, h⟩ := h
    obtain ⟨b45, h⟩ := h
    refine ex_iast (pc := 120) d_Md_send_120 e43 k44 b45 ?_
    replace h := h _ rfl
    refine ex_aload_n (pc := 121) d_Md_send_121 rfl ?_
    refine ex_getR (pc := 122) d_Md_send_122 rfl rfl k1 ?_
    refine ex_iload (pc := 125) d_Md_send_125 rfl ?_
    refine ex_bipush (w := 7) (pc := 127) d_Md_send_127 (by decide) ?_
    refine ex_iadd (pc := 129) d_Md_send_129 ?_
    refine ex_aload_n (pc := 130) d_Md_send_130 rfl ?_
    refine ex_getR (pc := 131) d_Md_send_131 rfl rfl k1 ?_
    refine ex_iload (pc := 134) d_Md_send_134 rfl ?_
    obtain ⟨q47, e48, h⟩ := h
    obtain ⟨k49, h⟩ := h
    obtain ⟨b50, h⟩ := h
    refine ex_iald (pc := 136) d_Md_send_136 e48 k49 b50 ?_
    obtain ⟨q51, e52, h⟩ := h
    obtain ⟨k53, h⟩ := h
    obtain ⟨b54, h⟩ := h
    refine ex_iast (pc := 137) d_Md_send_137 e52 k53 b54 ?_
    replace h := h _ rfl
    refine ex_aload_n (pc := 138) d_Md_send_138 rfl ?_
    refine ex_getR (pc := 139) d_Md_send_139 rfl rfl k1 ?_
    refine ex_iload (pc := 142) d_Md_send_142 rfl ?_
    refine ex_bipush (w := 8) (pc := 144) d_Md_send_144 (by decide) ?_
    refine ex_iadd (pc := 146) d_Md_send_146 ?_
    refine ex_aload_n (pc := 147) d_Md_send_147 rfl ?_
    refine ex_getR (pc := 148) d_Md_send_148 rfl rfl k1 ?_
    refine ex_iload (pc := 151) d_Md_send_151 rfl ?_
    obtain ⟨q56, e57, h⟩ := h
    obtain ⟨k58, h⟩ := h
    obtain ⟨b59, h⟩ := h
    refine ex_iald (pc := 153) d_Md_send_153 e57 k58 b59 ?_
    obtain ⟨q60, e61, h⟩ := h
    obtain ⟨k62, h⟩ := h
    obtain ⟨b63, h⟩ := h
    refine ex_iast (pc := 154) d_Md_send_154 e61 k62 b63 ?_
    replace h := h _ rfl
    refine ex_aload_n (pc := 155) d_Md_send_155 rfl ?_
    refine ex_getR (pc := 156) d_Md_send_156 rfl rfl k1 ?_
    refine ex_iload (pc := 159) d_Md_send_159 rfl ?_
    refine ex_bipush (w := 9) (pc := 161) d_Md_send_161 (by decide) ?_
    refine ex_iadd (pc := 163) d_Md_send_163 ?_
    refine ex_aload_n (pc := 164) d_Md_send_164 rfl ?_
    refine ex_getR (pc := 165) d_Md_send_165 rfl rfl k1 ?_
    refine ex_iload (pc := 168) d_Md_send_168 rfl ?_
    obtain ⟨q65, e66, h⟩ := h
    obtain ⟨k67, h⟩ := h
    obtain ⟨b68, h⟩ := h
    refine ex_iald (pc := 170) d_Md_send_170 e66 k67 b68 ?_
    obtain ⟨q69, e70, h⟩ := h
    obtain ⟨k71, h⟩ := h
    obtain ⟨b72, h⟩ := h
    refine ex_iast (pc := 171) d_Md_send_171 e70 k71 b72 ?_
    replace h := h _ rfl
    refine ex_aload_n (pc := 172) d_Md_send_172 rfl ?_
    refine ex_getR (pc := 173) d_Md_send_173 rfl rfl k1 ?_
    refine ex_iload (pc := 176) d_Md_send_176 rfl ?_
    refine ex_bipush (w := 10) (pc := 178) d_Md_send_178 (by decide) ?_
    refine ex_iadd (pc := 180) d_Md_send_180 ?_
    refine ex_aload_n (pc := 181) d_Md_send_181 rfl ?_
    refine ex_getR (pc := 182) d_Md_send_182 rfl rfl k1 ?_
    refine ex_iload (pc := 185) d_Md_send_185 rfl ?_
    obtain ⟨q74, e75, h⟩ := h
    obtain ⟨k76, h⟩ := h
    obtain ⟨b77, h⟩ := h
    refine ex_iald (pc := 187) d_Md_send_187 e75 k76 b77 ?_
    obtain ⟨q78, e79, h⟩ := h
    obtain ⟨k80, h⟩ := h
    obtain ⟨b81, h⟩ := h
    refine ex_iast (pc := 188) d_Md_send_188 e79 k80 b81 ?_
    replace h := h _ rfl
    refine ex_aload_n (pc := 189) d_Md_send_189 rfl ?_
    refine ex_dup (pc := 190) d_Md_send_190 ?_
    refine ex_getI (pc := 191) d_Md_send_191 rfl rfl (by decide) k1 ?_
    refine ex_iconst (w := 1) (pc := 194) d_Md_send_194 (by decide) ?_
    refine ex_iadd (pc := 195) d_Md_send_195 ?_
    refine ex_putI (pc := 196) d_Md_send_196 rfl rfl k1 ?_
    replace h := h _ rfl
    exact ex_ret_v (pc := 199) d_Md_send_199 rfl h
  · replace h := h.2 g
    refine ex_aload_n (pc := 9) d_Md_send_9 rfl ?_
    refine ex_dup (pc := 10) d_Md_send_10 ?_
    refine ex_getI (pc := 11) d_Md_send_11 rfl rfl (by decide) k1 ?_
    refine ex_iconst (w := 1) (pc := 14) d_Md_send_14 (by decide) ?_
    refine ex_iadd (pc := 15) d_Md_send_15 ?_
    refine ex_putI (pc := 16) d_Md_send_16 rfl rfl k1 ?_
    replace h := h _ rfl
    exact ex_ret_v (pc := 19) d_Md_send_19 rfl h
theorem sg_Md_sendAll_0 {h0 : Nat} {v1 : Int32} {v2 : Int32} {v3 : Int32} {v4 : Int32} {M : me_M} {Q : Option me_V → me_M → Prop} (h : EX eL X_Md_sendAll 3 [some (.inr (some h0)), some (.inl v1), some (.inl v2), some (.inl v3), some (.inl v4), some (.inl 0)] [] M Q) : EX eL X_Md_sendAll 0 [some (.inr (some h0)), some (.inl v1), some (.inl v2), some (.inl v3), some (.inl v4), none] [] M Q := by
  refine ex_iconst (w := 0) (pc := 0) d_Md_sendAll_0 (by decide) ?_
  refine ex_istore (ls2 := [_, _, _, _, _, _]) (pc := 1) d_Md_sendAll_1 (Nat.le_of_ble_eq_true rfl) rfl ?_
  exact h
theorem sg_Md_sendAll_3 {h0 : Nat} {v1 : Int32} {v2 : Int32} {v3 : Int32} {v4 : Int32} {v5 : Int32} {M : me_M} {Q : Option me_V → me_M → Prop} (h : mKd M h0 = 11 ∧ (((mI M 1640 h0 0) ≤ v5) → Q none M) ∧ ((¬ (mI M 1640 h0 0) ≤ v5) → ((v5 = v2) → ∀ x2, x2 = v5 + Int32.ofInt 1 → EX eL X_Md_sendAll 3 [some (.inr (some h0)), some (.inl v1), some (.inl v2), some (.inl v3), some (.inl v4), some (.inl x2)] [] M Q) ∧ ((¬ v5 = v2) → EX eL X_Md_send 0 [some (.inr (some h0)), some (.inl v1), some (.inl v2), some (.inl v5), some (.inl v3), some (.inl v4), none, none] [] M (fun r4 M3 => r4 = none ∧ ∀ x5, x5 = v5 + Int32.ofInt 1 → EX eL X_Md_sendAll 3 [some (.inr (some h0)), some (.inl v1), some (.inl v2), some (.inl v3), some (.inl v4), some (.inl x5)] [] M3 Q)))) : EX eL X_Md_sendAll 3 [some (.inr (some h0)), some (.inl v1), some (.inl v2), some (.inl v3), some (.inl v4), some (.inl v5)] [] M Q := by
  refine ex_iload (pc := 3) d_Md_sendAll_3 rfl ?_
  refine ex_aload_n (pc := 5) d_Md_sendAll_5 rfl ?_
  obtain ⟨k1, h⟩ := h
  refine ex_getI (pc := 6) d_Md_sendAll_6 rfl rfl (by decide) k1 ?_
  refine ex_icmp_ge (tgt := 35) (pc := 9) d_Md_sendAll_9 (by decide) (fun g => ?_) (fun g => ?_)
  · replace h := h.1 g
    exact ex_ret_v (pc := 35) d_Md_sendAll_35 rfl h
  · replace h := h.2 g
    refine ex_iload (pc := 12) d_Md_sendAll_12 rfl ?_
    refine ex_iload_n (pc := 14) d_Md_sendAll_14 rfl ?_
    refine ex_icmp_eq (tgt := 29) (pc := 15) d_Md_sendAll_15 (by decide) (fun g => ?_) (fun g => ?_)
    · replace h := h.1 g
      refine ex_iinc (ls2 := [_, _, _, _, _, _]) (pc := 29) d_Md_sendAll_29 rfl rfl ?_
      replace h := h _ rfl
      refine ex_goto (tgt := 3) (pc := 32) d_Md_sendAll_32 (by decide) ?_
      exact h
    · replace h := h.2 g
      refine ex_aload_n (pc := 18) d_Md_sendAll_18 rfl ?_
      refine ex_iload_n (pc := 19) d_Md_sendAll_19 rfl ?_
      refine ex_iload_n (pc := 20) d_Md_sendAll_20 rfl ?_
      refine ex_iload (pc := 21) d_Md_sendAll_21 rfl ?_
      refine ex_iload_n (pc := 23) d_Md_sendAll_23 rfl ?_
      refine ex_iload (pc := 24) d_Md_sendAll_24 rfl ?_
      refine ex_cVV (as := [_, _, _, _, _]) (st := []) (pc := 26) rfl rfl k1 rfl rfl rfl (Nat.le_of_ble_eq_true rfl) (EX.mono h fun r4 M3 h => ?_)
      obtain ⟨rfl, h⟩ := h
      refine ⟨rfl, ?_⟩
      refine ex_iinc (ls2 := [_, _, _, _, _, _]) (pc := 29) d_Md_sendAll_29 rfl rfl ?_
      replace h := h _ rfl
      refine ex_goto (tgt := 3) (pc := 32) d_Md_sendAll_32 (by decide) ?_
      exact h
theorem sg_Md_take_0 {h0 : Nat} {v1 : Int32} {M : me_M} {Q : Option me_V → me_M → Prop} (h : EX eL X_Md_take 2 [some (.inr (some h0)), some (.inl v1), some (.inl 0)] [] M Q) : EX eL X_Md_take 0 [some (.inr (some h0)), some (.inl v1), none] [] M Q := by
  refine ex_iconst (w := 0) (pc := 0) d_Md_take_0 (by decide) ?_
  refine ex_istore_n (ls2 := [_, _, _]) (pc := 1) d_Md_take_1 (Nat.le_of_ble_eq_true rfl) rfl ?_
  exact h
theorem sg_Md_take_2 {h0 : Nat} {v1 : Int32} {v2 : Int32} {M : me_M} {Q : Option me_V → me_M → Prop} (h : ((11 ≤ v2) → ∀ x1, x1 = (11 * v1) → EX eL X_Md_take 40 [some (.inr (some h0)), none, some (.inl x1)] [] M Q) ∧ ((¬ 11 ≤ v2) → mKd M h0 = 11 ∧ ∃ q3, (mR M 1668 h0 0) = some q3 ∧ mKd M q3 = 100 ∧ vp_in ((11 * v1) + v2) (mLn M q3) ∧ vp_in (440 + v2) (mLn M q3) ∧ ∀ M8, M8 = mSetI M 100 q3 (440 + v2).toNatClampNeg (mI M 100 q3 ((11 * v1) + v2).toNatClampNeg) → ∀ x9, x9 = v2 + Int32.ofInt 1 → EX eL X_Md_take 2 [some (.inr (some h0)), some (.inl v1), some (.inl x9)] [] M8 Q)) : EX eL X_Md_take 2 [some (.inr (some h0)), some (.inl v1), some (.inl v2)] [] M Q := by
  refine ex_iload_n (pc := 2) d_Md_take_2 rfl ?_
  refine ex_bipush (w := 11) (pc := 3) d_Md_take_3 (by decide) ?_
  refine ex_icmp_ge (tgt := 35) (pc := 5) d_Md_take_5 (by decide) (fun g => ?_) (fun g => ?_)
  · replace h := h.1 g
    refine ex_bipush (w := 11) (pc := 35) d_Md_take_35 (by decide) ?_
    refine ex_iload_n (pc := 37) d_Md_take_37 rfl ?_
    refine ex_imul (pc := 38) d_Md_take_38 ?_
    refine ex_istore_n (ls2 := [_, _, _]) (pc := 39) d_Md_take_39 (Nat.le_of_ble_eq_true rfl) rfl ?_
    replace h := h _ rfl
    refine ex_drop (k := 1) (ls2 := [_, _, _]) rfl ?_
    exact h
  · replace h := h.2 g
    refine ex_aload_n (pc := 8) d_Md_take_8 rfl ?_
    obtain ⟨k2, h⟩ := h
    refine ex_getR (pc := 9) d_Md_take_9 rfl rfl k2 ?_
    refine ex_sipush (w := 440) (pc := 12) d_Md_take_12 (by decide) ?_
    refine ex_iload_n (pc := 15) d_Md_take_15 rfl ?_
    refine ex_iadd (pc := 16) d_Md_take_16 ?_
    refine ex_aload_n (pc := 17) d_Md_take_17 rfl ?_
    refine ex_getR (pc := 18) d_Md_take_18 rfl rfl k2 ?_
    refine ex_bipush (w := 11) (pc := 21) d_Md_take_21 (by decide) ?_
    refine ex_iload_n (pc := 23) d_Md_take_23 rfl ?_
    refine ex_imul (pc := 24) d_Md_take_24 ?_
    refine ex_iload_n (pc := 25) d_Md_take_25 rfl ?_
    refine ex_iadd (pc := 26) d_Md_take_26 ?_
    obtain ⟨q3, e4, h⟩ := h
    obtain ⟨k5, h⟩ := h
    obtain ⟨b6, h⟩ := h
    refine ex_iald (pc := 27) d_Md_take_27 e4 k5 b6 ?_
    obtain ⟨b7, h⟩ := h
    refine ex_iast (pc := 28) d_Md_take_28 e4 k5 b7 ?_
    replace h := h _ rfl
    refine ex_iinc (ls2 := [_, _, _]) (pc := 29) d_Md_take_29 rfl rfl ?_
    replace h := h _ rfl
    refine ex_goto (tgt := 2) (pc := 32) d_Md_take_32 (by decide) ?_
    exact h
theorem sg_Md_take_40 {h0 : Nat} {v2 : Int32} {M : me_M} {Q : Option me_V → me_M → Prop} (h : mKd M h0 = 11 ∧ (((11 * (mI M 1666 h0 0)) ≤ (v2 + 11)) → ∀ M2, M2 = mSetI M 1666 h0 0 ((mI M 1666 h0 0) - 1) → Q none M2) ∧ ((¬ (11 * (mI M 1666 h0 0)) ≤ (v2 + 11)) → ∃ q3, (mR M 1668 h0 0) = some q3 ∧ mKd M q3 = 100 ∧ vp_in (v2 + 11) (mLn M q3) ∧ vp_in v2 (mLn M q3) ∧ ∀ M8, M8 = mSetI M 100 q3 v2.toNatClampNeg (mI M 100 q3 (v2 + 11).toNatClampNeg) → ∀ x9, x9 = v2 + Int32.ofInt 1 → EX eL X_Md_take 40 [some (.inr (some h0)), none, some (.inl x9)] [] M8 Q)) : EX eL X_Md_take 40 [some (.inr (some h0)), none, some (.inl v2)] [] M Q := by
  refine ex_iload_n (pc := 40) d_Md_take_40 rfl ?_
  refine ex_bipush (w := 11) (pc := 41) d_Md_take_41 (by decide) ?_
  refine ex_iadd (pc := 43) d_Md_take_43 ?_
  refine ex_bipush (w := 11) (pc := 44) d_Md_take_44 (by decide) ?_
  refine ex_aload_n (pc := 46) d_Md_take_46 rfl ?_
  obtain ⟨k1, h⟩ := h
  refine ex_getI (pc := 47) d_Md_take_47 rfl rfl (by decide) k1 ?_
  refine ex_imul (pc := 50) d_Md_take_50 ?_
  refine ex_icmp_ge (tgt := 75) (pc := 51) d_Md_take_51 (by decide) (fun g => ?_) (fun g => ?_)
  · replace h := h.1 g
    refine ex_aload_n (pc := 75) d_Md_take_75 rfl ?_
    refine ex_dup (pc := 76) d_Md_take_76 ?_
    refine ex_getI (pc := 77) d_Md_take_77 rfl rfl (by decide) k1 ?_
    refine ex_iconst (w := 1) (pc := 80) d_Md_take_80 (by decide) ?_
    refine ex_isub (pc := 81) d_Md_take_81 ?_
    refine ex_putI (pc := 82) d_Md_take_82 rfl rfl k1 ?_
    replace h := h _ rfl
    exact ex_ret_v (pc := 85) d_Md_take_85 rfl h
  · replace h := h.2 g
    refine ex_aload_n (pc := 54) d_Md_take_54 rfl ?_
    refine ex_getR (pc := 55) d_Md_take_55 rfl rfl k1 ?_
    refine ex_iload_n (pc := 58) d_Md_take_58 rfl ?_
    refine ex_aload_n (pc := 59) d_Md_take_59 rfl ?_
    refine ex_getR (pc := 60) d_Md_take_60 rfl rfl k1 ?_
    refine ex_iload_n (pc := 63) d_Md_take_63 rfl ?_
    refine ex_bipush (w := 11) (pc := 64) d_Md_take_64 (by decide) ?_
    refine ex_iadd (pc := 66) d_Md_take_66 ?_
    obtain ⟨q3, e4, h⟩ := h
    obtain ⟨k5, h⟩ := h
    obtain ⟨b6, h⟩ := h
    refine ex_iald (pc := 67) d_Md_take_67 e4 k5 b6 ?_
    obtain ⟨b7, h⟩ := h
    refine ex_iast (pc := 68) d_Md_take_68 e4 k5 b7 ?_
    replace h := h _ rfl
    refine ex_iinc (ls2 := [_, _, _]) (pc := 69) d_Md_take_69 rfl rfl ?_
    replace h := h _ rfl
    refine ex_goto (tgt := 40) (pc := 72) d_Md_take_72 (by decide) ?_
    exact h
theorem sg_Md_lose_0 {h0 : Nat} {v1 : Int32} {M : me_M} {Q : Option me_V → me_M → Prop} (h : ((v1 < 0) → Q (some (.inl 0)) M) ∧ ((¬ v1 < 0) → mKd M h0 = 11 ∧ ((v1 < (mI M 1666 h0 0)) → EX eL X_Md_take 0 [some (.inr (some h0)), some (.inl v1), none] [] M (fun r3 M2 => r3 = none ∧ Q (some (.inl 1)) M2)) ∧ ((¬ v1 < (mI M 1666 h0 0)) → Q (some (.inl 0)) M))) : EX eL X_Md_lose 0 [some (.inr (some h0)), some (.inl v1)] [] M Q := by
  refine ex_iload_n (pc := 0) d_Md_lose_0 rfl ?_
  refine ex_if_lt (tgt := 12) (pc := 1) d_Md_lose_1 (by decide) (fun g => ?_) (fun g => ?_)
  · replace h := h.1 g
    refine ex_iconst (w := 0) (pc := 12) d_Md_lose_12 (by decide) ?_
    exact ex_ret_z (pc := 13) d_Md_lose_13 rfl (Or.inl rfl) h
  · replace h := h.2 g
    refine ex_iload_n (pc := 4) d_Md_lose_4 rfl ?_
    refine ex_aload_n (pc := 5) d_Md_lose_5 rfl ?_
    obtain ⟨k1, h⟩ := h
    refine ex_getI (pc := 6) d_Md_lose_6 rfl rfl (by decide) k1 ?_
    refine ex_icmp_lt (tgt := 14) (pc := 9) d_Md_lose_9 (by decide) (fun g => ?_) (fun g => ?_)
    · replace h := h.1 g
      refine ex_aload_n (pc := 14) d_Md_lose_14 rfl ?_
      refine ex_iload_n (pc := 15) d_Md_lose_15 rfl ?_
      refine ex_cVV (as := [_]) (st := []) (pc := 16) rfl rfl k1 rfl rfl rfl (Nat.le_of_ble_eq_true rfl) (EX.mono h fun r3 M2 h => ?_)
      obtain ⟨rfl, h⟩ := h
      refine ⟨rfl, ?_⟩
      refine ex_iconst (w := 1) (pc := 19) d_Md_lose_19 (by decide) ?_
      exact ex_ret_z (pc := 20) d_Md_lose_20 rfl (Or.inr rfl) h
    · replace h := h.2 g
      refine ex_iconst (w := 0) (pc := 12) d_Md_lose_12 (by decide) ?_
      exact ex_ret_z (pc := 13) d_Md_lose_13 rfl (Or.inl rfl) h
theorem sg_Md_preaccept_0 {h0 : Nat} {v1 : Int32} {v2 : Int32} {v3 : Int32} {M : me_M} {Q : Option me_V → me_M → Prop} (h : ∀ x1, x1 = ((30 * v1) + v3) → mKd M h0 = 11 ∧ ∃ q3, (mR M 1668 h0 0) = some q3 ∧ mKd M q3 = 100 ∧ vp_in 444 (mLn M q3) ∧ ∀ x7, x7 = (mI M 100 q3 (444 : Int32).toNatClampNeg) → ∃ q8, (mR M 1651 h0 0) = some q8 ∧ mKd M q8 = 100 ∧ vp_in x1 (mLn M q8) ∧ ((x7 < (mI M 100 q8 x1.toNatClampNeg)) → Q none M) ∧ ((¬ x7 < (mI M 100 q8 x1.toNatClampNeg)) → ∃ q12, (mR M 1646 h0 0) = some q12 ∧ mKd M q12 = 100 ∧ vp_in x1 (mLn M q12) ∧ ((¬ (mI M 100 q12 x1.toNatClampNeg) = 2) → vp_in x1 (mLn M q8) ∧ ∀ M17, M17 = mSetI M 100 q8 x1.toNatClampNeg x7 → ∃ q18, (mR M17 1652 h0 0) = some q18 ∧ mKd M17 q18 = 100 ∧ vp_in x1 (mLn M17 q18) ∧ ∀ M22, M22 = mSetI M17 100 q18 x1.toNatClampNeg x7 → ∃ q23, (mR M22 1668 h0 0) = some q23 ∧ mKd M22 q23 = 100 ∧ vp_in 445 (mLn M22 q23) ∧ vp_in 446 (mLn M22 q23) ∧ vp_in 447 (mLn M22 q23) ∧ vp_in 448 (mLn M22 q23) ∧ EX eL X_Md_fit 0 [some (.inr (some h0)), some (.inl v1), some (.inl v3), some (.inl (mI M22 100 q23 (445 : Int32).toNatClampNeg)), some (.inl (mI M22 100 q23 (446 : Int32).toNatClampNeg)), some (.inl (mI M22 100 q23 (447 : Int32).toNatClampNeg)), some (.inl (mI M22 100 q23 (448 : Int32).toNatClampNeg)), none, none, none] [] M22 (fun r31 M30 => r31 = none ∧ mKd M30 h0 = 11 ∧ EX eL X_Md_send 0 [some (.inr (some h0)), some (.inl 1), some (.inl v1), some (.inl v2), some (.inl v3), some (.inl x7), none, none] [] M30 (fun r34 M33 => r34 = none ∧ Q none M33))) ∧ (((mI M 100 q12 x1.toNatClampNeg) = 2) → ∃ q35, (mR M 1652 h0 0) = some q35 ∧ mKd M q35 = 100 ∧ vp_in x1 (mLn M q35) ∧ ((¬ (mI M 100 q35 x1.toNatClampNeg) = x7) → vp_in x1 (mLn M q8) ∧ ∀ M40, M40 = mSetI M 100 q8 x1.toNatClampNeg x7 → ∃ q41, (mR M40 1652 h0 0) = some q41 ∧ mKd M40 q41 = 100 ∧ vp_in x1 (mLn M40 q41) ∧ ∀ M45, M45 = mSetI M40 100 q41 x1.toNatClampNeg x7 → ∃ q46, (mR M45 1668 h0 0) = some q46 ∧ mKd M45 q46 = 100 ∧ vp_in 445 (mLn M45 q46) ∧ vp_in 446 (mLn M45 q46) ∧ vp_in 447 (mLn M45 q46) ∧ vp_in 448 (mLn M45 q46) ∧ EX eL X_Md_fit 0 [some (.inr (some h0)), some (.inl v1), some (.inl v3), some (.inl (mI M45 100 q46 (445 : Int32).toNatClampNeg)), some (.inl (mI M45 100 q46 (446 : Int32).toNatClampNeg)), some (.inl (mI M45 100 q46 (447 : Int32).toNatClampNeg)), some (.inl (mI M45 100 q46 (448 : Int32).toNatClampNeg)), none, none, none] [] M45 (fun r54 M53 => r54 = none ∧ mKd M53 h0 = 11 ∧ EX eL X_Md_send 0 [some (.inr (some h0)), some (.inl 1), some (.inl v1), some (.inl v2), some (.inl v3), some (.inl x7), none, none] [] M53 (fun r57 M56 => r57 = none ∧ Q none M56))) ∧ (((mI M 100 q35 x1.toNatClampNeg) = x7) → Q none M)))) : EX eL X_Md_preaccept 0 [some (.inr (some h0)), some (.inl v1), some (.inl v2), some (.inl v3), none, none] [] M Q := by
  refine ex_bipush (w := 30) (pc := 0) d_Md_preaccept_0 (by decide) ?_
  refine ex_iload_n (pc := 2) d_Md_preaccept_2 rfl ?_
  refine ex_imul (pc := 3) d_Md_preaccept_3 ?_
  refine ex_iload_n (pc := 4) d_Md_preaccept_4 rfl ?_
  refine ex_iadd (pc := 5) d_Md_preaccept_5 ?_
  refine ex_istore (ls2 := [_, _, _, _, _, _]) (pc := 6) d_Md_preaccept_6 (Nat.le_of_ble_eq_true rfl) rfl ?_
  replace h := h _ rfl
  refine ex_aload_n (pc := 8) d_Md_preaccept_8 rfl ?_
  obtain ⟨k2, h⟩ := h
  refine ex_getR (pc := 9) d_Md_preaccept_9 rfl rfl k2 ?_
  refine ex_sipush (w := 444) (pc := 12) d_Md_preaccept_12 (by decide) ?_
  obtain ⟨q3, e4, h⟩ := h
  obtain ⟨k5, h⟩ := h
  obtain ⟨b6, h⟩ := h
  refine ex_iald (pc := 15) d_Md_preaccept_15 e4 k5 b6 ?_
  refine ex_istore (ls2 := [_, _, _, _, _, _]) (pc := 16) d_Md_preaccept_16 (Nat.le_of_ble_eq_true rfl) rfl ?_
  replace h := h _ rfl
  refine ex_iload (pc := 18) d_Md_preaccept_18 rfl ?_
  refine ex_aload_n (pc := 20) d_Md_preaccept_20 rfl ?_
  refine ex_getR (pc := 21) d_Md_preaccept_21 rfl rfl k2 ?_
  refine ex_iload (pc := 24) d_Md_preaccept_24 rfl ?_
  obtain ⟨q8, e9, h⟩ := h
  obtain ⟨k10, h⟩ := h
  obtain ⟨b11, h⟩ := h
  refine ex_iald (pc := 26) d_Md_preaccept_26 e9 k10 b11 ?_
  refine ex_icmp_lt (tgt := 53) (pc := 27) d_Md_preaccept_27 (by decide) (fun g => ?_) (fun g => ?_)
  · replace h := h.1 g
    exact ex_ret_v (pc := 53) d_Md_preaccept_53 rfl h
  · replace h := h.2 g
    refine ex_aload_n (pc := 30) d_Md_preaccept_30 rfl ?_
    refine ex_getR (pc := 31) d_Md_preaccept_31 rfl rfl k2 ?_
    refine ex_iload (pc := 34) d_Md_preaccept_34 rfl ?_
    obtain ⟨q12, e13, h⟩ := h
    obtain ⟨k14, h⟩ := h
    obtain ⟨b15, h⟩ := h
    refine ex_iald (pc := 36) d_Md_preaccept_36 e13 k14 b15 ?_
    refine ex_iconst (w := 2) (pc := 37) d_Md_preaccept_37 (by decide) ?_
    refine ex_icmp_ne (tgt := 54) (pc := 38) d_Md_preaccept_38 (by decide) (fun g => ?_) (fun g => ?_)
    · replace h := h.1 g
      refine ex_aload_n (pc := 54) d_Md_preaccept_54 rfl ?_
      refine ex_getR (pc := 55) d_Md_preaccept_55 rfl rfl k2 ?_
      refine ex_iload (pc := 58) d_Md_preaccept_58 rfl ?_
      refine ex_iload (pc := 60) d_Md_preaccept_60 rfl ?_
      obtain ⟨b16, h⟩ := h
      refine ex_iast (pc := 62) d_Md_preaccept_62 e9 k10 b16 ?_
      replace h := h _ rfl
      refine ex_aload_n (pc := 63) d_Md_preaccept_63 rfl ?_
      refine ex_getR (pc := 64) d_Md_preaccept_64 rfl rfl k2 ?_
      refine ex_iload (pc := 67) d_Md_preaccept_67 rfl ?_
      refine ex_iload (pc := 69) d_Md_preaccept_69 rfl ?_
      obtain ⟨q18, e19, h⟩ := h
      obtain ⟨k20, h⟩ := h
      obtain ⟨b21, h⟩ := h
      refine ex_iast (pc := 71) d_Md_preaccept_71 e19 k20 b21 ?_
      replace h := h _ rfl
      refine ex_aload_n (pc := 72) d_Md_preaccept_72 rfl ?_
      refine ex_iload_n (pc := 73) d_Md_preaccept_73 rfl ?_
      refine ex_iload_n (pc := 74) d_Md_preaccept_74 rfl ?_
      refine ex_aload_n (pc := 75) d_Md_preaccept_75 rfl ?_
      refine ex_getR (pc := 76) d_Md_preaccept_76 rfl rfl k2 ?_
      refine ex_sipush (w := 445) (pc := 79) d_Md_preaccept_79 (by decide) ?_
      obtain ⟨q23, e24, h⟩ := h
      obtain ⟨k25, h⟩ := h
      obtain ⟨b26, h⟩ := h
      refine ex_iald (pc := 82) d_Md_preaccept_82 e24 k25 b26 ?_
      refine ex_aload_n (pc := 83) d_Md_preaccept_83 rfl ?_
      refine ex_getR (pc := 84) d_Md_preaccept_84 rfl rfl k2 ?_
      refine ex_sipush (w := 446) (pc := 87) d_Md_preaccept_87 (by decide) ?_
      obtain ⟨b27, h⟩ := h
      refine ex_iald (pc := 90) d_Md_preaccept_90 e24 k25 b27 ?_
      refine ex_aload_n (pc := 91) d_Md_preaccept_91 rfl ?_
      refine ex_getR (pc := 92) d_Md_preaccept_92 rfl rfl k2 ?_
      refine ex_sipush (w := 447) (pc := 95) d_Md_preaccept_95 (by decide) ?_
      obtain ⟨b28, h⟩ := h
      refine ex_iald (pc := 98) d_Md_preaccept_98 e24 k25 b28 ?_
      refine ex_aload_n (pc := 99) d_Md_preaccept_99 rfl ?_
      refine ex_getR (pc := 100) d_Md_preaccept_100 rfl rfl k2 ?_
      refine ex_sipush (w := 448) (pc := 103) d_Md_preaccept_103 (by decide) ?_
      obtain ⟨b29, h⟩ := h
      refine ex_iald (pc := 106) d_Md_preaccept_106 e24 k25 b29 ?_
      refine ex_cVV (as := [_, _, _, _, _, _]) (st := []) (pc := 107) rfl rfl k2 rfl rfl rfl (Nat.le_of_ble_eq_true rfl) (EX.mono h fun r31 M30 h => ?_)
      obtain ⟨rfl, h⟩ := h
      refine ⟨rfl, ?_⟩
      refine ex_aload_n (pc := 110) d_Md_preaccept_110 rfl ?_
      refine ex_iconst (w := 1) (pc := 111) d_Md_preaccept_111 (by decide) ?_
      refine ex_iload_n (pc := 112) d_Md_preaccept_112 rfl ?_
      refine ex_iload_n (pc := 113) d_Md_preaccept_113 rfl ?_
      refine ex_iload_n (pc := 114) d_Md_preaccept_114 rfl ?_
      refine ex_iload (pc := 115) d_Md_preaccept_115 rfl ?_
      obtain ⟨k32, h⟩ := h
      refine ex_cVV (as := [_, _, _, _, _]) (st := []) (pc := 117) rfl rfl k32 rfl rfl rfl (Nat.le_of_ble_eq_true rfl) (EX.mono h fun r34 M33 h => ?_)
      obtain ⟨rfl, h⟩ := h
      refine ⟨rfl, ?_⟩
      exact ex_ret_v (pc := 120) d_Md_preaccept_120 rfl h
    · replace h := h.2 g
      refine ex_aload_n (pc := 41) d_Md_preaccept_41 rfl ?_
      refine ex_getR (pc := 42) d_Md_preaccept_42 rfl rfl k2 ?_
      refine ex_iload (pc := 45) d_Md_preaccept_45 rfl ?_
      obtain ⟨q35, e36, h⟩ := h
      obtain ⟨k37, h⟩ := h
      obtain ⟨b38, h⟩ := h
      refine ex_iald (pc := 47) d_Md_preaccept_47 e36 k37 b38 ?_
      refine ex_iload (pc := 48) d_Md_preaccept_48 rfl ?_
      refine ex_icmp_ne (tgt := 54) (pc := 50) d_Md_preaccept_50 (by decide) (fun g => ?_) (fun g => ?_)
      · replace h := h.1 g
        refine ex_aload_n (pc := 54) d_Md_preaccept_54 rfl ?_
        refine ex_getR (pc := 55) d_Md_preaccept_55 rfl rfl k2 ?_
        refine ex_iload (pc := 58) d_Md_preaccept_58 rfl ?_
        refine ex_iload (pc := 60) d_Md_preaccept_60 rfl ?_
        obtain ⟨b39, h⟩ := h
        refine ex_iast (pc := 62) d_Md_preaccept_62 e9 k10 b39 ?_
        replace h := h _ rfl
        refine ex_aload_n (pc := 63) d_Md_preaccept_63 rfl ?_
        refine ex_getR (pc := 64) d_Md_preaccept_64 rfl rfl k2 ?_
        refine ex_iload (pc := 67) d_Md_preaccept_67 rfl ?_
        refine ex_iload (pc := 69) d_Md_preaccept_69 rfl ?_
        obtain ⟨q41, e42, h⟩ := h
        obtain ⟨k43, h⟩ := h
        obtain ⟨b44, h⟩ := h
        refine ex_iast (pc := 71) d_Md_preaccept_71 e42 k43 b44 ?_
        replace h := h _ rfl
        refine ex_aload_n (pc := 72) d_Md_preaccept_72 rfl ?_
        refine ex_iload_n (pc := 73) d_Md_preaccept_73 rfl ?_
        refine ex_iload_n (pc := 74) d_Md_preaccept_74 rfl ?_
        refine ex_aload_n (pc := 75) d_Md_preaccept_75 rfl ?_
        refine ex_getR (pc := 76) d_Md_preaccept_76 rfl rfl k2 ?_
        refine ex_sipush (w := 445) (pc := 79) d_Md_preaccept_79 (by decide) ?_
        obtain ⟨q46, e47, h⟩ := h
        obtain ⟨k48, h⟩ := h
        obtain ⟨b49, h⟩ := h
        refine ex_iald (pc := 82) d_Md_preaccept_82 e47 k48 b49 ?_
        refine ex_aload_n (pc := 83) d_Md_preaccept_83 rfl ?_
        refine ex_getR (pc := 84) d_Md_preaccept_84 rfl rfl k2 ?_
        refine ex_sipush (w := 446) (pc := 87) d_Md_preaccept_87 (by decide) ?_
        obtain ⟨b50, h⟩ := h
        refine ex_iald (pc := 90) d_Md_preaccept_90 e47 k48 b50 ?_
        refine ex_aload_n (pc := 91) d_Md_preaccept_91 rfl ?_
        refine ex_getR (pc := 92) d_Md_preaccept_92 rfl rfl k2 ?_
        refine ex_sipush (w := 447) (pc := 95) d_Md_preaccept_95 (by decide) ?_
        obtain ⟨b51, h⟩ := h
        refine ex_iald (pc := 98) d_Md_preaccept_98 e47 k48 b51 ?_
        refine ex_aload_n (pc := 99) d_Md_preaccept_99 rfl ?_
        refine ex_getR (pc := 100) d_Md_preaccept_100 rfl rfl k2 ?_
        refine ex_sipush (w := 448) (pc := 103) d_Md_preaccept_103 (by decide) ?_
        obtain ⟨b52, h⟩ := h
        refine ex_iald (pc := 106) d_Md_preaccept_106 e47 k48 b52 ?_
        refine ex_cVV (as := [_, _, _, _, _, _]) (st := []) (pc := 107) rfl rfl k2 rfl rfl rfl (Nat.le_of_ble_eq_true rfl) (EX.mono h fun r54 M53 h => ?_)
        obtain ⟨rfl, h⟩ := h
        refine ⟨rfl, ?_⟩
        refine ex_aload_n (pc := 110) d_Md_preaccept_110 rfl ?_
        refine ex_iconst (w := 1) (pc := 111) d_Md_preaccept_111 (by decide) ?_
        refine ex_iload_n (pc := 112) d_Md_preaccept_112 rfl ?_
        refine ex_iload_n (pc := 113) d_Md_preaccept_113 rfl ?_
        refine ex_iload_n (pc := 114) d_Md_preaccept_114 rfl ?_
        refine ex_iload (pc := 115) d_Md_preaccept_115 rfl ?_
        obtain ⟨k55, h⟩ := h
        refine ex_cVV (as := [_, _, _, _, _]) (st := []) (pc := 117) rfl rfl k55 rfl rfl rfl (Nat.le_of_ble_eq_true rfl) (EX.mono h fun r57 M56 h => ?_)
        obtain ⟨rfl, h⟩ := h
        refine ⟨rfl, ?_⟩
        exact ex_ret_v (pc := 120) d_Md_preaccept_120 rfl h
      · replace h := h.2 g
        exact ex_ret_v (pc := 53) d_Md_preaccept_53 rfl h
theorem sg_Md_accept_0 {h0 : Nat} {v1 : Int32} {v2 : Int32} {v3 : Int32} {M : me_M} {Q : Option me_V → me_M → Prop} (h : ∀ x1, x1 = ((30 * v1) + v3) → mKd M h0 = 11 ∧ ∃ q3, (mR M 1668 h0 0) = some q3 ∧ mKd M q3 = 100 ∧ vp_in 444 (mLn M q3) ∧ ∀ x7, x7 = (mI M 100 q3 (444 : Int32).toNatClampNeg) → ∃ q8, (mR M 1651 h0 0) = some q8 ∧ mKd M q8 = 100 ∧ vp_in x1 (mLn M q8) ∧ (((mI M 100 q8 x1.toNatClampNeg) ≤ x7) → vp_in x1 (mLn M q8) ∧ ∀ M13, M13 = mSetI M 100 q8 x1.toNatClampNeg x7 → ∃ q14, (mR M13 1652 h0 0) = some q14 ∧ mKd M13 q14 = 100 ∧ vp_in x1 (mLn M13 q14) ∧ ∀ M18, M18 = mSetI M13 100 q14 x1.toNatClampNeg x7 → ∃ q19, (mR M18 1668 h0 0) = some q19 ∧ mKd M18 q19 = 100 ∧ vp_in 445 (mLn M18 q19) ∧ vp_in 446 (mLn M18 q19) ∧ EX eL X_Md_put 0 [some (.inr (some h0)), some (.inl x1), some (.inl 2), some (.inl (mI M18 100 q19 (445 : Int32).toNatClampNeg)), some (.inl (mI M18 100 q19 (446 : Int32).toNatClampNeg))] [] M18 (fun r25 M24 => r25 = none ∧ mKd M24 h0 = 11 ∧ ∃ q27, (mR M24 1668 h0 0) = some q27 ∧ mKd M24 q27 = 100 ∧ vp_in 447 (mLn M24 q27) ∧ ∃ q31, (mR M24 1649 h0 0) = some q31 ∧ mKd M24 q31 = 100 ∧ vp_in x1 (mLn M24 q31) ∧ ∀ M35, M35 = mSetI M24 100 q31 x1.toNatClampNeg (mI M24 100 q27 (447 : Int32).toNatClampNeg) → ∃ q36, (mR M35 1668 h0 0) = some q36 ∧ mKd M35 q36 = 100 ∧ vp_in 448 (mLn M35 q36) ∧ ∃ q40, (mR M35 1650 h0 0) = some q40 ∧ mKd M35 q40 = 100 ∧ vp_in x1 (mLn M35 q40) ∧ ∀ M44, M44 = mSetI M35 100 q40 x1.toNatClampNeg (mI M35 100 q36 (448 : Int32).toNatClampNeg) → EX eL X_Md_send 0 [some (.inr (some h0)), some (.inl 3), some (.inl v1), some (.inl v2), some (.inl v3), some (.inl x7), none, none] [] M44 (fun r46 M45 => r46 = none ∧ Q none M45))) ∧ ((¬ (mI M 100 q8 x1.toNatClampNeg) ≤ x7) → Q none M)) : EX eL X_Md_accept 0 [some (.inr (some h0)), some (.inl v1), some (.inl v2), some (.inl v3), none, none] [] M Q := by
  refine ex_bipush (w := 30) (pc := 0) d_Md_accept_0 (by decide) ?_
  refine ex_iload_n (pc := 2) d_Md_accept_2 rfl ?_
  refine ex_imul (pc := 3) d_Md_accept_3 ?_
  refine ex_iload_n (pc := 4) d_Md_accept_4 rfl ?_
  refine ex_iadd (pc := 5) d_Md_accept_5 ?_
  refine ex_istore (ls2 := [_, _, _, _, _, _]) (pc := 6) d_Md_accept_6 (Nat.le_of_ble_eq_true rfl) rfl ?_
  replace h := h _ rfl
  refine ex_aload_n (pc := 8) d_Md_accept_8 rfl ?_
  obtain ⟨k2, h⟩ := h
  refine ex_getR (pc := 9) d_Md_accept_9 rfl rfl k2 ?_
  refine ex_sipush (w := 444) (pc := 12) d_Md_accept_12 (by decide) ?_
  obtain ⟨q3, e4, h⟩ := h
  obtain ⟨k5, h⟩ := h
  obtain ⟨b6, h⟩ := h
  refine ex_iald (pc := 15) d_Md_accept_15 e4 k5 b6 ?_
  refine ex_istore (ls2 := [_, _, _, _, _, _]) (pc := 16) d_Md_accept_16 (Nat.le_of_ble_eq_true rfl) rfl ?_
  replace h := h _ rfl
  refine ex_iload (pc := 18) d_Md_accept_18 rfl ?_
  refine ex_aload_n (pc := 20) d_Md_accept_20 rfl ?_
  refine ex_getR (pc := 21) d_Md_accept_21 rfl rfl k2 ?_
  refine ex_iload (pc := 24) d_Md_accept_24 rfl ?_
  obtain ⟨q8, e9, h⟩ := h
  obtain ⟨k10, h⟩ := h
  obtain ⟨b11, h⟩ := h
  refine ex_iald (pc := 26) d_Md_accept_26 e9 k10 b11 ?_
  refine ex_icmp_ge (tgt := 31) (pc := 27) d_Md_accept_27 (by decide) (fun g => ?_) (fun g => ?_)
  · replace h := h.1 g
    refine ex_aload_n (pc := 31) d_Md_accept_31 rfl ?_
    refine ex_getR (pc := 32) d_Md_accept_32 rfl rfl k2 ?_
    refine ex_iload (pc := 35) d_Md_accept_35 rfl ?_
    refine ex_iload (pc := 37) d_Md_accept_37 rfl ?_
    obtain ⟨b12, h⟩ := h
    refine ex_iast (pc := 39) d_Md_accept_39 e9 k10 b12 ?_
    replace h := h _ rfl
    refine ex_aload_n (pc := 40) d_Md_accept_40 rfl ?_
    refine ex_getR (pc := 41) d_Md_accept_41 rfl rfl k2 ?_
    refine ex_iload (pc := 44) d_Md_accept_44 rfl ?_
    refine ex_iload (pc := 46) d_Md_accept_46 rfl ?_
    obtain ⟨q14, e15, h⟩ := h
    obtain ⟨k16, h⟩ := h
    obtain ⟨b17, h⟩ := h
    refine ex_iast (pc := 48) d_Md_accept_48 e15 k16 b17 ?_
    replace h := h _ rfl
    refine ex_aload_n (pc := 49) d_Md_accept_49 rfl ?_
    refine ex_iload (pc := 50) d_Md_accept_50 rfl ?_
    refine ex_iconst (w := 2) (pc := 52) d_Md_accept_52 (by decide) ?_
    refine ex_aload_n (pc := 53) d_Md_accept_53 rfl ?_
    refine ex_getR (pc := 54) d_Md_accept_54 rfl rfl k2 ?_
    refine ex_sipush (w := 445) (pc := 57) d_Md_accept_57 (by decide) ?_
    obtain ⟨q19, e20, h⟩ := h
    obtain ⟨k21, h⟩ := h
    obtain ⟨b22, h⟩ := h
    refine ex_iald (pc := 60) d_Md_accept_60 e20 k21 b22 ?_
    refine ex_aload_n (pc := 61) d_Md_accept_61 rfl ?_
    refine ex_getR (pc := 62) d_Md_accept_62 rfl rfl k2 ?_
    refine ex_sipush (w := 446) (pc := 65) d_Md_accept_65 (by decide) ?_
    obtain ⟨b23, h⟩ := h
    refine ex_iald (pc := 68) d_Md_accept_68 e20 k21 b23 ?_
    refine ex_cVV (as := [_, _, _, _]) (st := []) (pc := 69) rfl rfl k2 rfl rfl rfl (Nat.le_of_ble_eq_true rfl) (EX.mono h fun r25 M24 h => ?_)
    obtain ⟨rfl, h⟩ := h
    refine ⟨rfl, ?_⟩
    refine ex_aload_n (pc := 72) d_Md_accept_72 rfl ?_
    obtain ⟨k26, h⟩ := h
    refine ex_getR (pc := 73) d_Md_accept_73 rfl rfl k26 ?_
    refine ex_iload (pc := 76) d_Md_accept_76 rfl ?_
    refine ex_aload_n (pc := 78) d_Md_accept_78 rfl ?_
    refine ex_getR (pc := 79) d_Md_accept_79 rfl rfl k26 ?_
    refine ex_sipush (w := 447) (pc := 82) d_Md_accept_82 (by decide) ?_
    obtain ⟨q27, e28, h⟩ := h
    obtain ⟨k29, h⟩ := h
    obtain ⟨b30, h⟩ := h
    refine ex_iald (pc := 85) d_Md_accept_85 e28 k29 b30 ?_
    obtain ⟨q31, e32, h⟩ := h
    obtain ⟨k33, h⟩ := h
    obtain ⟨b34, h⟩ := h
    refine ex_iast (pc := 86) d_Md_accept_86 e32 k33 b34 ?_
    replace h := h _ rfl
    refine ex_aload_n (pc := 87) d_Md_accept_87 rfl ?_
    refine ex_getR (pc := 88) d_Md_accept_88 rfl rfl k26 ?_
    refine ex_iload (pc := 91) d_Md_accept_91 rfl ?_
    refine ex_aload_n (pc := 93) d_Md_accept_93 rfl ?_
    refine ex_getR (pc := 94) d_Md_accept_94 rfl rfl k26 ?_
    refine ex_sipush (w := 448) (pc := 97) d_Md_accept_97 (by decide) ?_
    obtain ⟨q36, e37, h⟩ := h
    obtain ⟨k38, h⟩ := h
    obtain ⟨b39, h⟩ := h
    refine ex_iald (pc := 100) d_Md_accept_100 e37 k38 b39 ?_
    obtain ⟨q40, e41, h⟩ := h
    obtain ⟨k42, h⟩ := h
    obtain ⟨b43, h⟩ := h
    refine ex_iast (pc := 101) d_Md_accept_101 e41 k42 b43 ?_
    replace h := h _ rfl
    refine ex_aload_n (pc := 102) d_Md_accept_102 rfl ?_
    refine ex_iconst (w := 3) (pc := 103) d_Md_accept_103 (by decide) ?_
    refine ex_iload_n (pc := 104) d_Md_accept_104 rfl ?_
    refine ex_iload_n (pc := 105) d_Md_accept_105 rfl ?_
    refine ex_iload_n (pc := 106) d_Md_accept_106 rfl ?_
    refine ex_iload (pc := 107) d_Md_accept_107 rfl ?_
    refine ex_cVV (as := [_, _, _, _, _]) (st := []) (pc := 109) rfl rfl k26 rfl rfl rfl (Nat.le_of_ble_eq_true rfl) (EX.mono h fun r46 M45 h => ?_)
    obtain ⟨rfl, h⟩ := h
    refine ⟨rfl, ?_⟩
    exact ex_ret_v (pc := 112) d_Md_accept_112 rfl h
  · replace h := h.2 g
    exact ex_ret_v (pc := 30) d_Md_accept_30 rfl h
theorem sg_Md_asked_0 {h0 : Nat} {v1 : Int32} {v2 : Int32} {v3 : Int32} {M : me_M} {Q : Option me_V → me_M → Prop} (h : ∀ x1, x1 = ((30 * v1) + v3) → mKd M h0 = 11 ∧ ∃ q3, (mR M 1668 h0 0) = some q3 ∧ mKd M q3 = 100 ∧ vp_in 444 (mLn M q3) ∧ ∀ x7, x7 = (mI M 100 q3 (444 : Int32).toNatClampNeg) → ∃ q8, (mR M 1651 h0 0) = some q8 ∧ mKd M q8 = 100 ∧ vp_in x1 (mLn M q8) ∧ (((mI M 100 q8 x1.toNatClampNeg) < x7) → vp_in x1 (mLn M q8) ∧ ∀ M13, M13 = mSetI M 100 q8 x1.toNatClampNeg x7 → EX eL X_Md_send 0 [some (.inr (some h0)), some (.inl 6), some (.inl v1), some (.inl v2), some (.inl v3), some (.inl x7), none, none] [] M13 (fun r15 M14 => r15 = none ∧ Q none M14)) ∧ ((¬ (mI M 100 q8 x1.toNatClampNeg) < x7) → Q none M)) : EX eL X_Md_asked 0 [some (.inr (some h0)), some (.inl v1), some (.inl v2), some (.inl v3), none, none] [] M Q := by
  refine ex_bipush (w := 30) (pc := 0) d_Md_asked_0 (by decide) ?_
  refine ex_iload_n (pc := 2) d_Md_asked_2 rfl ?_
  refine ex_imul (pc := 3) d_Md_asked_3 ?_
  refine ex_iload_n (pc := 4) d_Md_asked_4 rfl ?_
  refine ex_iadd (pc := 5) d_Md_asked_5 ?_
  refine ex_istore (ls2 := [_, _, _, _, _, _]) (pc := 6) d_Md_asked_6 (Nat.le_of_ble_eq_true rfl) rfl ?_
  replace h := h _ rfl
  refine ex_aload_n (pc := 8) d_Md_asked_8 rfl ?_
  obtain ⟨k2, h⟩ := h
  refine ex_getR (pc := 9) d_Md_asked_9 rfl rfl k2 ?_
  refine ex_sipush (w := 444) (pc := 12) d_Md_asked_12 (by decide) ?_
  obtain ⟨q3, e4, h⟩ := h
  obtain ⟨k5, h⟩ := h
  obtain ⟨b6, h⟩ := h
  refine ex_iald (pc := 15) d_Md_asked_15 e4 k5 b6 ?_
  refine ex_istore (ls2 := [_, _, _, _, _, _]) (pc := 16) d_Md_asked_16 (Nat.le_of_ble_eq_true rfl) rfl ?_
  replace h := h _ rfl
  refine ex_iload (pc := 18) d_Md_asked_18 rfl ?_
  refine ex_aload_n (pc := 20) d_Md_asked_20 rfl ?_
  refine ex_getR (pc := 21) d_Md_asked_21 rfl rfl k2 ?_
  refine ex_iload (pc := 24) d_Md_asked_24 rfl ?_
  obtain ⟨q8, e9, h⟩ := h
  obtain ⟨k10, h⟩ := h
  obtain ⟨b11, h⟩ := h
  refine ex_iald (pc := 26) d_Md_asked_26 e9 k10 b11 ?_
  refine ex_icmp_gt (tgt := 31) (pc := 27) d_Md_asked_27 (by decide) (fun g => ?_) (fun g => ?_)
  · replace h := h.1 g
    refine ex_aload_n (pc := 31) d_Md_asked_31 rfl ?_
    refine ex_getR (pc := 32) d_Md_asked_32 rfl rfl k2 ?_
    refine ex_iload (pc := 35) d_Md_asked_35 rfl ?_
    refine ex_iload (pc := 37) d_Md_asked_37 rfl ?_
    obtain ⟨b12, h⟩ := h
    refine ex_iast (pc := 39) d_Md_asked_39 e9 k10 b12 ?_
    replace h := h _ rfl
    refine ex_aload_n (pc := 40) d_Md_asked_40 rfl ?_
    refine ex_bipush (w := 6) (pc := 41) d_Md_asked_41 (by decide) ?_
    refine ex_iload_n (pc := 43) d_Md_asked_43 rfl ?_
    refine ex_iload_n (pc := 44) d_Md_asked_44 rfl ?_
    refine ex_iload_n (pc := 45) d_Md_asked_45 rfl ?_
    refine ex_iload (pc := 46) d_Md_asked_46 rfl ?_
    refine ex_cVV (as := [_, _, _, _, _]) (st := []) (pc := 48) rfl rfl k2 rfl rfl rfl (Nat.le_of_ble_eq_true rfl) (EX.mono h fun r15 M14 h => ?_)
    obtain ⟨rfl, h⟩ := h
    refine ⟨rfl, ?_⟩
    exact ex_ret_v (pc := 51) d_Md_asked_51 rfl h
  · replace h := h.2 g
    exact ex_ret_v (pc := 30) d_Md_asked_30 rfl h
theorem sg_Md_settle_0 {h0 : Nat} {v1 : Int32} {M : me_M} {Q : Option me_V → me_M → Prop} (h : mKd M h0 = 11 ∧ ∃ q2, (mR M 1668 h0 0) = some q2 ∧ mKd M q2 = 100 ∧ vp_in 445 (mLn M q2) ∧ vp_in 446 (mLn M q2) ∧ EX eL X_Md_put 0 [some (.inr (some h0)), some (.inl v1), some (.inl 3), some (.inl (mI M 100 q2 (445 : Int32).toNatClampNeg)), some (.inl (mI M 100 q2 (446 : Int32).toNatClampNeg))] [] M (fun r8 M7 => r8 = none ∧ mKd M7 h0 = 11 ∧ ∃ q10, (mR M7 1668 h0 0) = some q10 ∧ mKd M7 q10 = 100 ∧ vp_in 447 (mLn M7 q10) ∧ ∃ q14, (mR M7 1649 h0 0) = some q14 ∧ mKd M7 q14 = 100 ∧ vp_in v1 (mLn M7 q14) ∧ ∀ M18, M18 = mSetI M7 100 q14 v1.toNatClampNeg (mI M7 100 q10 (447 : Int32).toNatClampNeg) → ∃ q19, (mR M18 1668 h0 0) = some q19 ∧ mKd M18 q19 = 100 ∧ vp_in 448 (mLn M18 q19) ∧ ∃ q23, (mR M18 1650 h0 0) = some q23 ∧ mKd M18 q23 = 100 ∧ vp_in v1 (mLn M18 q23) ∧ ∀ M27, M27 = mSetI M18 100 q23 v1.toNatClampNeg (mI M18 100 q19 (448 : Int32).toNatClampNeg) → Q none M27)) : EX eL X_Md_settle 0 [some (.inr (some h0)), some (.inl v1)] [] M Q := by
  refine ex_aload_n (pc := 0) d_Md_settle_0 rfl ?_
  refine ex_iload_n (pc := 1) d_Md_settle_1 rfl ?_
  refine ex_iconst (w := 3) (pc := 2) d_Md_settle_2 (by decide) ?_
  refine ex_aload_n (pc := 3) d_Md_settle_3 rfl ?_
  obtain ⟨k1, h⟩ := h
  refine ex_getR (pc := 4) d_Md_settle_4 rfl rfl k1 ?_
  refine ex_sipush (w := 445) (pc := 7) d_Md_settle_7 (by decide) ?_
  obtain ⟨q2, e3, h⟩ := h
  obtain ⟨k4, h⟩ := h
  obtain ⟨b5, h⟩ := h
  refine ex_iald (pc := 10) d_Md_settle_10 e3 k4 b5 ?_
  refine ex_aload_n (pc := 11) d_Md_settle_11 rfl ?_
  refine ex_getR (pc := 12) d_Md_settle_12 rfl rfl k1 ?_
  refine ex_sipush (w := 446) (pc := 15) d_Md_settle_15 (by decide) ?_
  obtain ⟨b6, h⟩ := h
  refine ex_iald (pc := 18) d_Md_settle_18 e3 k4 b6 ?_
  refine ex_cVV (as := [_, _, _, _]) (st := []) (pc := 19) rfl rfl k1 rfl rfl rfl (Nat.le_of_ble_eq_true rfl) (EX.mono h fun r8 M7 h => ?_)
  obtain ⟨rfl, h⟩ := h
  refine ⟨rfl, ?_⟩
  refine ex_aload_n (pc := 22) d_Md_settle_22 rfl ?_
  obtain ⟨k9, h⟩ := h
  refine ex_getR (pc := 23) d_Md_settle_23 rfl rfl k9 ?_
  refine ex_iload_n (pc := 26) d_Md_settle_26 rfl ?_
  refine ex_aload_n (pc := 27) d_Md_settle_27 rfl ?_
  refine ex_getR (pc := 28) d_Md_settle_28 rfl rfl k9 ?_
  refine ex_sipush (w := 447) (pc := 31) d_Md_settle_31 (by decide) ?_
  obtain ⟨q10, e11, h⟩ := h
  obtain ⟨k12, h⟩ := h
  obtain ⟨b13, h⟩ := h
  refine ex_iald (pc := 34) d_Md_settle_34 e11 k12 b13 ?_
  obtain ⟨q14, e15, h⟩ := h
  obtain ⟨k16, h⟩ := h
  obtain ⟨b17, h⟩ := h
  refine ex_iast (pc := 35) d_Md_settle_35 e15 k16 b17 ?_
  replace h := h _ rfl
  refine ex_aload_n (pc := 36) d_Md_settle_36 rfl ?_
  refine ex_getR (pc := 37) d_Md_settle_37 rfl rfl k9 ?_
  refine ex_iload_n (pc := 40) d_Md_settle_40 rfl ?_
  refine ex_aload_n (pc := 41) d_Md_settle_41 rfl ?_
  refine ex_getR (pc := 42) d_Md_settle_42 rfl rfl k9 ?_
  refine ex_sipush (w := 448) (pc := 45) d_Md_settle_45 (by decide) ?_
  obtain ⟨q19, e20, h⟩ := h
  obtain ⟨k21, h⟩ := h
  obtain ⟨b22, h⟩ := h
  refine ex_iald (pc := 48) d_Md_settle_48 e20 k21 b22 ?_
  obtain ⟨q23, e24, h⟩ := h
  obtain ⟨k25, h⟩ := h
  obtain ⟨b26, h⟩ := h
  refine ex_iast (pc := 49) d_Md_settle_49 e24 k25 b26 ?_
  replace h := h _ rfl
  exact ex_ret_v (pc := 50) d_Md_settle_50 rfl h
