theorem d_Md_afterPromise_0 : decode b_Md_afterPromise 0 = .ok (.bipush 30, 2) := by decide +kernel
theorem d_Md_afterPromise_2 : decode b_Md_afterPromise 2 = .ok (.iload_n 1, 1) := by decide +kernel
theorem d_Md_afterPromise_3 : decode b_Md_afterPromise 3 = .ok (.imul, 1) := by decide +kernel
theorem d_Md_afterPromise_4 : decode b_Md_afterPromise 4 = .ok (.iload_n 2, 1) := by decide +kernel
theorem d_Md_afterPromise_5 : decode b_Md_afterPromise 5 = .ok (.iadd, 1) := by decide +kernel
theorem d_Md_afterPromise_6 : decode b_Md_afterPromise 6 = .ok (.istore_n 3, 1) := by decide +kernel
theorem d_Md_afterPromise_7 : decode b_Md_afterPromise 7 = .ok (.iconst 4, 1) := by decide +kernel
theorem d_Md_afterPromise_8 : decode b_Md_afterPromise 8 = .ok (.iload_n 3, 1) := by decide +kernel
theorem d_Md_afterPromise_9 : decode b_Md_afterPromise 9 = .ok (.imul, 1) := by decide +kernel
theorem d_Md_afterPromise_10 : decode b_Md_afterPromise 10 = .ok (.istore 4, 2) := by decide +kernel
theorem d_Md_afterPromise_12 : decode b_Md_afterPromise 12 = .ok (.iload 4, 2) := by decide +kernel
theorem d_Md_afterPromise_14 : decode b_Md_afterPromise 14 = .ok (.aload_n 0, 1) := by decide +kernel
theorem d_Md_afterPromise_15 : decode b_Md_afterPromise 15 = .ok (.getfield 56, 3) := by decide +kernel
theorem d_Md_afterPromise_18 : decode b_Md_afterPromise 18 = .ok (.iload_n 3, 1) := by decide +kernel
theorem d_Md_afterPromise_19 : decode b_Md_afterPromise 19 = .ok (.iaload, 1) := by decide +kernel
theorem d_Md_afterPromise_20 : decode b_Md_afterPromise 20 = .ok (.iadd, 1) := by decide +kernel
theorem d_Md_afterPromise_21 : decode b_Md_afterPromise 21 = .ok (.istore 5, 2) := by decide +kernel
theorem d_Md_afterPromise_23 : decode b_Md_afterPromise 23 = .ok (.aload_n 0, 1) := by decide +kernel
theorem d_Md_afterPromise_24 : decode b_Md_afterPromise 24 = .ok (.getfield 59, 3) := by decide +kernel
theorem d_Md_afterPromise_27 : decode b_Md_afterPromise 27 = .ok (.iload 5, 2) := by decide +kernel
theorem d_Md_afterPromise_29 : decode b_Md_afterPromise 29 = .ok (.iload_n 1, 1) := by decide +kernel
theorem d_Md_afterPromise_30 : decode b_Md_afterPromise 30 = .ok (.iastore, 1) := by decide +kernel
theorem d_Md_afterPromise_31 : decode b_Md_afterPromise 31 = .ok (.aload_n 0, 1) := by decide +kernel
theorem d_Md_afterPromise_32 : decode b_Md_afterPromise 32 = .ok (.getfield 65, 3) := by decide +kernel
theorem d_Md_afterPromise_35 : decode b_Md_afterPromise 35 = .ok (.iload 5, 2) := by decide +kernel
theorem d_Md_afterPromise_37 : decode b_Md_afterPromise 37 = .ok (.aload_n 0, 1) := by decide +kernel
theorem d_Md_afterPromise_38 : decode b_Md_afterPromise 38 = .ok (.getfield 23, 3) := by decide +kernel
theorem d_Md_afterPromise_41 : decode b_Md_afterPromise 41 = .ok (.iload_n 3, 1) := by decide +kernel
theorem d_Md_afterPromise_42 : decode b_Md_afterPromise 42 = .ok (.iaload, 1) := by decide +kernel
theorem d_Md_afterPromise_43 : decode b_Md_afterPromise 43 = .ok (.iastore, 1) := by decide +kernel
theorem d_Md_afterPromise_44 : decode b_Md_afterPromise 44 = .ok (.aload_n 0, 1) := by decide +kernel
theorem d_Md_afterPromise_45 : decode b_Md_afterPromise 45 = .ok (.getfield 68, 3) := by decide +kernel
theorem d_Md_afterPromise_48 : decode b_Md_afterPromise 48 = .ok (.iload 5, 2) := by decide +kernel
theorem d_Md_afterPromise_50 : decode b_Md_afterPromise 50 = .ok (.aload_n 0, 1) := by decide +kernel
theorem d_Md_afterPromise_51 : decode b_Md_afterPromise 51 = .ok (.getfield 26, 3) := by decide +kernel
theorem d_Md_afterPromise_54 : decode b_Md_afterPromise 54 = .ok (.iload_n 3, 1) := by decide +kernel
theorem d_Md_afterPromise_55 : decode b_Md_afterPromise 55 = .ok (.iaload, 1) := by decide +kernel
theorem d_Md_afterPromise_56 : decode b_Md_afterPromise 56 = .ok (.iastore, 1) := by decide +kernel
theorem d_Md_afterPromise_57 : decode b_Md_afterPromise 57 = .ok (.aload_n 0, 1) := by decide +kernel
theorem d_Md_afterPromise_58 : decode b_Md_afterPromise 58 = .ok (.getfield 71, 3) := by decide +kernel
theorem d_Md_afterPromise_61 : decode b_Md_afterPromise 61 = .ok (.iload 5, 2) := by decide +kernel
theorem d_Md_afterPromise_63 : decode b_Md_afterPromise 63 = .ok (.aload_n 0, 1) := by decide +kernel
theorem d_Md_afterPromise_64 : decode b_Md_afterPromise 64 = .ok (.getfield 29, 3) := by decide +kernel
theorem d_Md_afterPromise_67 : decode b_Md_afterPromise 67 = .ok (.iload_n 3, 1) := by decide +kernel
theorem d_Md_afterPromise_68 : decode b_Md_afterPromise 68 = .ok (.iaload, 1) := by decide +kernel
theorem d_Md_afterPromise_69 : decode b_Md_afterPromise 69 = .ok (.iastore, 1) := by decide +kernel
theorem d_Md_afterPromise_70 : decode b_Md_afterPromise 70 = .ok (.aload_n 0, 1) := by decide +kernel
theorem d_Md_afterPromise_71 : decode b_Md_afterPromise 71 = .ok (.getfield 74, 3) := by decide +kernel
theorem d_Md_afterPromise_74 : decode b_Md_afterPromise 74 = .ok (.iload 5, 2) := by decide +kernel
theorem d_Md_afterPromise_76 : decode b_Md_afterPromise 76 = .ok (.aload_n 0, 1) := by decide +kernel
theorem d_Md_afterPromise_77 : decode b_Md_afterPromise 77 = .ok (.getfield 32, 3) := by decide +kernel
theorem d_Md_afterPromise_80 : decode b_Md_afterPromise 80 = .ok (.iload_n 3, 1) := by decide +kernel
theorem d_Md_afterPromise_81 : decode b_Md_afterPromise 81 = .ok (.iaload, 1) := by decide +kernel
theorem d_Md_afterPromise_82 : decode b_Md_afterPromise 82 = .ok (.iastore, 1) := by decide +kernel
theorem d_Md_afterPromise_83 : decode b_Md_afterPromise 83 = .ok (.aload_n 0, 1) := by decide +kernel
theorem d_Md_afterPromise_84 : decode b_Md_afterPromise 84 = .ok (.getfield 62, 3) := by decide +kernel
theorem d_Md_afterPromise_87 : decode b_Md_afterPromise 87 = .ok (.iload 5, 2) := by decide +kernel
theorem d_Md_afterPromise_89 : decode b_Md_afterPromise 89 = .ok (.aload_n 0, 1) := by decide +kernel
theorem d_Md_afterPromise_90 : decode b_Md_afterPromise 90 = .ok (.getfield 20, 3) := by decide +kernel
theorem d_Md_afterPromise_93 : decode b_Md_afterPromise 93 = .ok (.iload_n 3, 1) := by decide +kernel
theorem d_Md_afterPromise_94 : decode b_Md_afterPromise 94 = .ok (.iaload, 1) := by decide +kernel
theorem d_Md_afterPromise_95 : decode b_Md_afterPromise 95 = .ok (.iastore, 1) := by decide +kernel
theorem d_Md_afterPromise_96 : decode b_Md_afterPromise 96 = .ok (.aload_n 0, 1) := by decide +kernel
theorem d_Md_afterPromise_97 : decode b_Md_afterPromise 97 = .ok (.getfield 77, 3) := by decide +kernel
theorem d_Md_afterPromise_100 : decode b_Md_afterPromise 100 = .ok (.iload 5, 2) := by decide +kernel
theorem d_Md_afterPromise_102 : decode b_Md_afterPromise 102 = .ok (.aload_n 0, 1) := by decide +kernel
theorem d_Md_afterPromise_103 : decode b_Md_afterPromise 103 = .ok (.getfield 38, 3) := by decide +kernel
theorem d_Md_afterPromise_106 : decode b_Md_afterPromise 106 = .ok (.iload_n 3, 1) := by decide +kernel
theorem d_Md_afterPromise_107 : decode b_Md_afterPromise 107 = .ok (.iaload, 1) := by decide +kernel
theorem d_Md_afterPromise_108 : decode b_Md_afterPromise 108 = .ok (.iastore, 1) := by decide +kernel
theorem d_Md_afterPromise_109 : decode b_Md_afterPromise 109 = .ok (.aload_n 0, 1) := by decide +kernel
theorem d_Md_afterPromise_110 : decode b_Md_afterPromise 110 = .ok (.iload 4, 2) := by decide +kernel
theorem d_Md_afterPromise_112 : decode b_Md_afterPromise 112 = .ok (.aload_n 0, 1) := by decide +kernel
theorem d_Md_afterPromise_113 : decode b_Md_afterPromise 113 = .ok (.getfield 90, 3) := by decide +kernel
theorem d_Md_afterPromise_116 : decode b_Md_afterPromise 116 = .ok (.iconst 1, 1) := by decide +kernel
theorem d_Md_afterPromise_117 : decode b_Md_afterPromise 117 = .ok (.iadd, 1) := by decide +kernel
theorem d_Md_afterPromise_118 : decode b_Md_afterPromise 118 = .ok (.invokevirtual 167, 3) := by decide +kernel
theorem d_Md_afterPromise_121 : decode b_Md_afterPromise 121 = .ok (.istore 6, 2) := by decide +kernel
theorem d_Md_afterPromise_123 : decode b_Md_afterPromise 123 = .ok (.iload 6, 2) := by decide +kernel
theorem d_Md_afterPromise_125 : decode b_Md_afterPromise 125 = .ok (.ifCond .ge 18, 3) := by decide +kernel
theorem d_Md_afterPromise_128 : decode b_Md_afterPromise 128 = .ok (.aload_n 0, 1) := by decide +kernel
theorem d_Md_afterPromise_129 : decode b_Md_afterPromise 129 = .ok (.iload 4, 2) := by decide +kernel
theorem d_Md_afterPromise_131 : decode b_Md_afterPromise 131 = .ok (.aload_n 0, 1) := by decide +kernel
theorem d_Md_afterPromise_132 : decode b_Md_afterPromise 132 = .ok (.getfield 90, 3) := by decide +kernel
theorem d_Md_afterPromise_135 : decode b_Md_afterPromise 135 = .ok (.iconst 1, 1) := by decide +kernel
theorem d_Md_afterPromise_136 : decode b_Md_afterPromise 136 = .ok (.iadd, 1) := by decide +kernel
theorem d_Md_afterPromise_137 : decode b_Md_afterPromise 137 = .ok (.iload_n 2, 1) := by decide +kernel
theorem d_Md_afterPromise_138 : decode b_Md_afterPromise 138 = .ok (.invokevirtual 171, 3) := by decide +kernel
theorem d_Md_afterPromise_141 : decode b_Md_afterPromise 141 = .ok (.istore 6, 2) := by decide +kernel
theorem d_Md_afterPromise_143 : decode b_Md_afterPromise 143 = .ok (.iload 6, 2) := by decide +kernel
theorem d_Md_afterPromise_145 : decode b_Md_afterPromise 145 = .ok (.ifCond .lt 38, 3) := by decide +kernel
theorem d_Md_afterPromise_148 : decode b_Md_afterPromise 148 = .ok (.aload_n 0, 1) := by decide +kernel
theorem d_Md_afterPromise_149 : decode b_Md_afterPromise 149 = .ok (.iload_n 1, 1) := by decide +kernel
theorem d_Md_afterPromise_150 : decode b_Md_afterPromise 150 = .ok (.iload_n 2, 1) := by decide +kernel
theorem d_Md_afterPromise_151 : decode b_Md_afterPromise 151 = .ok (.aload_n 0, 1) := by decide +kernel
theorem d_Md_afterPromise_152 : decode b_Md_afterPromise 152 = .ok (.getfield 65, 3) := by decide +kernel
theorem d_Md_afterPromise_155 : decode b_Md_afterPromise 155 = .ok (.iload 6, 2) := by decide +kernel
theorem d_Md_afterPromise_157 : decode b_Md_afterPromise 157 = .ok (.iaload, 1) := by decide +kernel
theorem d_Md_afterPromise_158 : decode b_Md_afterPromise 158 = .ok (.aload_n 0, 1) := by decide +kernel
theorem d_Md_afterPromise_159 : decode b_Md_afterPromise 159 = .ok (.getfield 68, 3) := by decide +kernel
theorem d_Md_afterPromise_162 : decode b_Md_afterPromise 162 = .ok (.iload 6, 2) := by decide +kernel
theorem d_Md_afterPromise_164 : decode b_Md_afterPromise 164 = .ok (.iaload, 1) := by decide +kernel
theorem d_Md_afterPromise_165 : decode b_Md_afterPromise 165 = .ok (.aload_n 0, 1) := by decide +kernel
theorem d_Md_afterPromise_166 : decode b_Md_afterPromise 166 = .ok (.getfield 71, 3) := by decide +kernel
theorem d_Md_afterPromise_169 : decode b_Md_afterPromise 169 = .ok (.iload 6, 2) := by decide +kernel
theorem d_Md_afterPromise_171 : decode b_Md_afterPromise 171 = .ok (.iaload, 1) := by decide +kernel
theorem d_Md_afterPromise_172 : decode b_Md_afterPromise 172 = .ok (.aload_n 0, 1) := by decide +kernel
theorem d_Md_afterPromise_173 : decode b_Md_afterPromise 173 = .ok (.getfield 74, 3) := by decide +kernel
theorem d_Md_afterPromise_176 : decode b_Md_afterPromise 176 = .ok (.iload 6, 2) := by decide +kernel
theorem d_Md_afterPromise_178 : decode b_Md_afterPromise 178 = .ok (.iaload, 1) := by decide +kernel
theorem d_Md_afterPromise_179 : decode b_Md_afterPromise 179 = .ok (.invokevirtual 155, 3) := by decide +kernel
theorem d_Md_afterPromise_182 : decode b_Md_afterPromise 182 = .ok (.return_, 1) := by decide +kernel
theorem d_Md_afterPromise_183 : decode b_Md_afterPromise 183 = .ok (.aload_n 0, 1) := by decide +kernel
theorem d_Md_afterPromise_184 : decode b_Md_afterPromise 184 = .ok (.iload 4, 2) := by decide +kernel
theorem d_Md_afterPromise_186 : decode b_Md_afterPromise 186 = .ok (.aload_n 0, 1) := by decide +kernel
theorem d_Md_afterPromise_187 : decode b_Md_afterPromise 187 = .ok (.getfield 90, 3) := by decide +kernel
theorem d_Md_afterPromise_190 : decode b_Md_afterPromise 190 = .ok (.iconst 1, 1) := by decide +kernel
theorem d_Md_afterPromise_191 : decode b_Md_afterPromise 191 = .ok (.iadd, 1) := by decide +kernel
theorem d_Md_afterPromise_192 : decode b_Md_afterPromise 192 = .ok (.invokevirtual 175, 3) := by decide +kernel
theorem d_Md_afterPromise_195 : decode b_Md_afterPromise 195 = .ok (.istore 6, 2) := by decide +kernel
theorem d_Md_afterPromise_197 : decode b_Md_afterPromise 197 = .ok (.iload 6, 2) := by decide +kernel
theorem d_Md_afterPromise_199 : decode b_Md_afterPromise 199 = .ok (.ifCond .ge 15, 3) := by decide +kernel
theorem d_Md_afterPromise_202 : decode b_Md_afterPromise 202 = .ok (.aload_n 0, 1) := by decide +kernel
theorem d_Md_afterPromise_203 : decode b_Md_afterPromise 203 = .ok (.iload_n 1, 1) := by decide +kernel
theorem d_Md_afterPromise_204 : decode b_Md_afterPromise 204 = .ok (.iload_n 2, 1) := by decide +kernel
theorem d_Md_afterPromise_205 : decode b_Md_afterPromise 205 = .ok (.bipush 8, 2) := by decide +kernel
theorem d_Md_afterPromise_207 : decode b_Md_afterPromise 207 = .ok (.iconst 0, 1) := by decide +kernel
theorem d_Md_afterPromise_208 : decode b_Md_afterPromise 208 = .ok (.iconst 0, 1) := by decide +kernel
theorem d_Md_afterPromise_209 : decode b_Md_afterPromise 209 = .ok (.iconst 0, 1) := by decide +kernel
theorem d_Md_afterPromise_210 : decode b_Md_afterPromise 210 = .ok (.invokevirtual 155, 3) := by decide +kernel
theorem d_Md_afterPromise_213 : decode b_Md_afterPromise 213 = .ok (.return_, 1) := by decide +kernel
theorem d_Md_afterPromise_214 : decode b_Md_afterPromise 214 = .ok (.aload_n 0, 1) := by decide +kernel
theorem d_Md_afterPromise_215 : decode b_Md_afterPromise 215 = .ok (.iload_n 1, 1) := by decide +kernel
theorem d_Md_afterPromise_216 : decode b_Md_afterPromise 216 = .ok (.iload_n 2, 1) := by decide +kernel
theorem d_Md_afterPromise_217 : decode b_Md_afterPromise 217 = .ok (.aload_n 0, 1) := by decide +kernel
theorem d_Md_afterPromise_218 : decode b_Md_afterPromise 218 = .ok (.getfield 65, 3) := by decide +kernel
theorem d_Md_afterPromise_221 : decode b_Md_afterPromise 221 = .ok (.iload 6, 2) := by decide +kernel
theorem d_Md_afterPromise_223 : decode b_Md_afterPromise 223 = .ok (.iaload, 1) := by decide +kernel
theorem d_Md_afterPromise_224 : decode b_Md_afterPromise 224 = .ok (.aload_n 0, 1) := by decide +kernel
theorem d_Md_afterPromise_225 : decode b_Md_afterPromise 225 = .ok (.getfield 68, 3) := by decide +kernel
theorem d_Md_afterPromise_228 : decode b_Md_afterPromise 228 = .ok (.iload 6, 2) := by decide +kernel
theorem d_Md_afterPromise_230 : decode b_Md_afterPromise 230 = .ok (.iaload, 1) := by decide +kernel
theorem d_Md_afterPromise_231 : decode b_Md_afterPromise 231 = .ok (.iconst 1, 1) := by decide +kernel
theorem d_Md_afterPromise_232 : decode b_Md_afterPromise 232 = .ok (.iconst 0, 1) := by decide +kernel
theorem d_Md_afterPromise_233 : decode b_Md_afterPromise 233 = .ok (.invokevirtual 151, 3) := by decide +kernel
theorem d_Md_afterPromise_236 : decode b_Md_afterPromise 236 = .ok (.aload_n 0, 1) := by decide +kernel
theorem d_Md_afterPromise_237 : decode b_Md_afterPromise 237 = .ok (.getfield 38, 3) := by decide +kernel
theorem d_Md_afterPromise_240 : decode b_Md_afterPromise 240 = .ok (.iload_n 3, 1) := by decide +kernel
theorem d_Md_afterPromise_241 : decode b_Md_afterPromise 241 = .ok (.aload_n 0, 1) := by decide +kernel
theorem d_Md_afterPromise_242 : decode b_Md_afterPromise 242 = .ok (.getfield 53, 3) := by decide +kernel
theorem d_Md_afterPromise_245 : decode b_Md_afterPromise 245 = .ok (.iload_n 3, 1) := by decide +kernel
theorem d_Md_afterPromise_246 : decode b_Md_afterPromise 246 = .ok (.iaload, 1) := by decide +kernel
theorem d_Md_afterPromise_247 : decode b_Md_afterPromise 247 = .ok (.iastore, 1) := by decide +kernel
theorem d_Md_afterPromise_248 : decode b_Md_afterPromise 248 = .ok (.aload_n 0, 1) := by decide +kernel
theorem d_Md_afterPromise_249 : decode b_Md_afterPromise 249 = .ok (.iload_n 3, 1) := by decide +kernel
theorem d_Md_afterPromise_250 : decode b_Md_afterPromise 250 = .ok (.iconst 1, 1) := by decide +kernel
theorem d_Md_afterPromise_251 : decode b_Md_afterPromise 251 = .ok (.aload_n 0, 1) := by decide +kernel
theorem d_Md_afterPromise_252 : decode b_Md_afterPromise 252 = .ok (.getfield 53, 3) := by decide +kernel
theorem d_Md_afterPromise_255 : decode b_Md_afterPromise 255 = .ok (.iload_n 3, 1) := by decide +kernel
theorem d_Md_afterPromise_256 : decode b_Md_afterPromise 256 = .ok (.iaload, 1) := by decide +kernel
theorem d_Md_afterPromise_257 : decode b_Md_afterPromise 257 = .ok (.invokevirtual 158, 3) := by decide +kernel
theorem d_Md_afterPromise_260 : decode b_Md_afterPromise 260 = .ok (.aload_n 0, 1) := by decide +kernel
theorem d_Md_afterPromise_261 : decode b_Md_afterPromise 261 = .ok (.iconst 0, 1) := by decide +kernel
theorem d_Md_afterPromise_262 : decode b_Md_afterPromise 262 = .ok (.iload_n 1, 1) := by decide +kernel
theorem d_Md_afterPromise_263 : decode b_Md_afterPromise 263 = .ok (.iload_n 2, 1) := by decide +kernel
theorem d_Md_afterPromise_264 : decode b_Md_afterPromise 264 = .ok (.aload_n 0, 1) := by decide +kernel
theorem d_Md_afterPromise_265 : decode b_Md_afterPromise 265 = .ok (.getfield 53, 3) := by decide +kernel
theorem d_Md_afterPromise_268 : decode b_Md_afterPromise 268 = .ok (.iload_n 3, 1) := by decide +kernel
theorem d_Md_afterPromise_269 : decode b_Md_afterPromise 269 = .ok (.iaload, 1) := by decide +kernel
theorem d_Md_afterPromise_270 : decode b_Md_afterPromise 270 = .ok (.invokevirtual 161, 3) := by decide +kernel
theorem d_Md_afterPromise_273 : decode b_Md_afterPromise 273 = .ok (.return_, 1) := by decide +kernel
theorem d_Md_receive_0 : decode b_Md_receive 0 = .ok (.bipush 30, 2) := by decide +kernel
theorem d_Md_receive_2 : decode b_Md_receive 2 = .ok (.iload_n 2, 1) := by decide +kernel
theorem d_Md_receive_3 : decode b_Md_receive 3 = .ok (.imul, 1) := by decide +kernel
theorem d_Md_receive_4 : decode b_Md_receive 4 = .ok (.iload 4, 2) := by decide +kernel
theorem d_Md_receive_6 : decode b_Md_receive 6 = .ok (.iadd, 1) := by decide +kernel
theorem d_Md_receive_7 : decode b_Md_receive 7 = .ok (.istore 5, 2) := by decide +kernel
theorem d_Md_receive_9 : decode b_Md_receive 9 = .ok (.iload_n 1, 1) := by decide +kernel
theorem d_Md_receive_10 : decode b_Md_receive 10 = .ok (.ifCond .eq 13, 3) := by decide +kernel
theorem d_Md_receive_13 : decode b_Md_receive 13 = .ok (.iload_n 1, 1) := by decide +kernel
theorem d_Md_receive_14 : decode b_Md_receive 14 = .ok (.iconst 2, 1) := by decide +kernel
theorem d_Md_receive_15 : decode b_Md_receive 15 = .ok (.if_icmp .eq 8, 3) := by decide +kernel
theorem d_Md_receive_18 : decode b_Md_receive 18 = .ok (.iload_n 1, 1) := by decide +kernel
theorem d_Md_receive_19 : decode b_Md_receive 19 = .ok (.iconst 5, 1) := by decide +kernel
theorem d_Md_receive_20 : decode b_Md_receive 20 = .ok (.if_icmp .ne 7, 3) := by decide +kernel
theorem d_Md_receive_23 : decode b_Md_receive 23 = .ok (.iconst 1, 1) := by decide +kernel
theorem d_Md_receive_24 : decode b_Md_receive 24 = .ok (.goto 4, 3) := by decide +kernel
theorem d_Md_receive_27 : decode b_Md_receive 27 = .ok (.iconst 0, 1) := by decide +kernel
theorem d_Md_receive_28 : decode b_Md_receive 28 = .ok (.istore 6, 2) := by decide +kernel
theorem d_Md_receive_30 : decode b_Md_receive 30 = .ok (.iload 6, 2) := by decide +kernel
theorem d_Md_receive_32 : decode b_Md_receive 32 = .ok (.ifCond .eq 25, 3) := by decide +kernel
theorem d_Md_receive_35 : decode b_Md_receive 35 = .ok (.aload_n 0, 1) := by decide +kernel
theorem d_Md_receive_36 : decode b_Md_receive 36 = .ok (.getfield 20, 3) := by decide +kernel
theorem d_Md_receive_39 : decode b_Md_receive 39 = .ok (.iload 5, 2) := by decide +kernel
theorem d_Md_receive_41 : decode b_Md_receive 41 = .ok (.iaload, 1) := by decide +kernel
theorem d_Md_receive_42 : decode b_Md_receive 42 = .ok (.iconst 3, 1) := by decide +kernel
theorem d_Md_receive_43 : decode b_Md_receive 43 = .ok (.if_icmp .lt 14, 3) := by decide +kernel
theorem d_Md_receive_46 : decode b_Md_receive 46 = .ok (.aload_n 0, 1) := by decide +kernel
theorem d_Md_receive_47 : decode b_Md_receive 47 = .ok (.iconst 4, 1) := by decide +kernel
theorem d_Md_receive_48 : decode b_Md_receive 48 = .ok (.iload_n 2, 1) := by decide +kernel
theorem d_Md_receive_49 : decode b_Md_receive 49 = .ok (.iload_n 3, 1) := by decide +kernel
theorem d_Md_receive_50 : decode b_Md_receive 50 = .ok (.iload 4, 2) := by decide +kernel
theorem d_Md_receive_52 : decode b_Md_receive 52 = .ok (.iconst 0, 1) := by decide +kernel
theorem d_Md_receive_53 : decode b_Md_receive 53 = .ok (.invokevirtual 114, 3) := by decide +kernel
theorem d_Md_receive_56 : decode b_Md_receive 56 = .ok (.return_, 1) := by decide +kernel
theorem d_Md_receive_57 : decode b_Md_receive 57 = .ok (.iload_n 1, 1) := by decide +kernel
theorem d_Md_receive_58 : decode b_Md_receive 58 = .ok (.ifCond .ne 11, 3) := by decide +kernel
theorem d_Md_receive_61 : decode b_Md_receive 61 = .ok (.aload_n 0, 1) := by decide +kernel
theorem d_Md_receive_62 : decode b_Md_receive 62 = .ok (.iload_n 2, 1) := by decide +kernel
theorem d_Md_receive_63 : decode b_Md_receive 63 = .ok (.iload_n 3, 1) := by decide +kernel
theorem d_Md_receive_64 : decode b_Md_receive 64 = .ok (.iload 4, 2) := by decide +kernel
theorem d_Md_receive_66 : decode b_Md_receive 66 = .ok (.invokevirtual 125, 3) := by decide +kernel
theorem d_Md_receive_69 : decode b_Md_receive 69 = .ok (.iload_n 1, 1) := by decide +kernel
theorem d_Md_receive_70 : decode b_Md_receive 70 = .ok (.iconst 2, 1) := by decide +kernel
theorem d_Md_receive_71 : decode b_Md_receive 71 = .ok (.if_icmp .ne 11, 3) := by decide +kernel
theorem d_Md_receive_74 : decode b_Md_receive 74 = .ok (.aload_n 0, 1) := by decide +kernel
theorem d_Md_receive_75 : decode b_Md_receive 75 = .ok (.iload_n 2, 1) := by decide +kernel
theorem d_Md_receive_76 : decode b_Md_receive 76 = .ok (.iload_n 3, 1) := by decide +kernel
theorem d_Md_receive_77 : decode b_Md_receive 77 = .ok (.iload 4, 2) := by decide +kernel
theorem d_Md_receive_79 : decode b_Md_receive 79 = .ok (.invokevirtual 129, 3) := by decide +kernel
theorem d_Md_receive_82 : decode b_Md_receive 82 = .ok (.iload_n 1, 1) := by decide +kernel
theorem d_Md_receive_83 : decode b_Md_receive 83 = .ok (.iconst 5, 1) := by decide +kernel
theorem d_Md_receive_84 : decode b_Md_receive 84 = .ok (.if_icmp .ne 11, 3) := by decide +kernel
theorem d_Md_receive_87 : decode b_Md_receive 87 = .ok (.aload_n 0, 1) := by decide +kernel
theorem d_Md_receive_88 : decode b_Md_receive 88 = .ok (.iload_n 2, 1) := by decide +kernel
theorem d_Md_receive_89 : decode b_Md_receive 89 = .ok (.iload_n 3, 1) := by decide +kernel
theorem d_Md_receive_90 : decode b_Md_receive 90 = .ok (.iload 4, 2) := by decide +kernel
theorem d_Md_receive_92 : decode b_Md_receive 92 = .ok (.invokevirtual 132, 3) := by decide +kernel
theorem d_Md_receive_95 : decode b_Md_receive 95 = .ok (.iload_n 1, 1) := by decide +kernel
theorem d_Md_receive_96 : decode b_Md_receive 96 = .ok (.iconst 4, 1) := by decide +kernel
theorem d_Md_receive_97 : decode b_Md_receive 97 = .ok (.if_icmp .ne 20, 3) := by decide +kernel
theorem d_Md_receive_100 : decode b_Md_receive 100 = .ok (.aload_n 0, 1) := by decide +kernel
theorem d_Md_receive_101 : decode b_Md_receive 101 = .ok (.getfield 20, 3) := by decide +kernel
theorem d_Md_receive_104 : decode b_Md_receive 104 = .ok (.iload 5, 2) := by decide +kernel
theorem d_Md_receive_106 : decode b_Md_receive 106 = .ok (.iaload, 1) := by decide +kernel
theorem d_Md_receive_107 : decode b_Md_receive 107 = .ok (.iconst 3, 1) := by decide +kernel
theorem d_Md_receive_108 : decode b_Md_receive 108 = .ok (.if_icmp .ge 9, 3) := by decide +kernel
theorem d_Md_receive_111 : decode b_Md_receive 111 = .ok (.aload_n 0, 1) := by decide +kernel
theorem d_Md_receive_112 : decode b_Md_receive 112 = .ok (.iload 5, 2) := by decide +kernel
theorem d_Md_receive_114 : decode b_Md_receive 114 = .ok (.invokevirtual 135, 3) := by decide +kernel
theorem d_Md_receive_117 : decode b_Md_receive 117 = .ok (.iload_n 1, 1) := by decide +kernel
theorem d_Md_receive_118 : decode b_Md_receive 118 = .ok (.iconst 1, 1) := by decide +kernel
theorem d_Md_receive_119 : decode b_Md_receive 119 = .ok (.if_icmp .ne 20, 3) := by decide +kernel
theorem d_Md_receive_122 : decode b_Md_receive 122 = .ok (.aload_n 0, 1) := by decide +kernel
theorem d_Md_receive_123 : decode b_Md_receive 123 = .ok (.iload 5, 2) := by decide +kernel
theorem d_Md_receive_125 : decode b_Md_receive 125 = .ok (.iconst 1, 1) := by decide +kernel
theorem d_Md_receive_126 : decode b_Md_receive 126 = .ok (.invokevirtual 138, 3) := by decide +kernel
theorem d_Md_receive_129 : decode b_Md_receive 129 = .ok (.ifCond .eq 10, 3) := by decide +kernel
theorem d_Md_receive_132 : decode b_Md_receive 132 = .ok (.aload_n 0, 1) := by decide +kernel
theorem d_Md_receive_133 : decode b_Md_receive 133 = .ok (.iload_n 2, 1) := by decide +kernel
theorem d_Md_receive_134 : decode b_Md_receive 134 = .ok (.iload 4, 2) := by decide +kernel
theorem d_Md_receive_136 : decode b_Md_receive 136 = .ok (.invokevirtual 141, 3) := by decide +kernel
theorem d_Md_receive_139 : decode b_Md_receive 139 = .ok (.iload_n 1, 1) := by decide +kernel
theorem d_Md_receive_140 : decode b_Md_receive 140 = .ok (.iconst 3, 1) := by decide +kernel
theorem d_Md_receive_141 : decode b_Md_receive 141 = .ok (.if_icmp .ne 48, 3) := by decide +kernel
theorem d_Md_receive_144 : decode b_Md_receive 144 = .ok (.aload_n 0, 1) := by decide +kernel
theorem d_Md_receive_145 : decode b_Md_receive 145 = .ok (.iload 5, 2) := by decide +kernel
theorem d_Md_receive_147 : decode b_Md_receive 147 = .ok (.iconst 2, 1) := by decide +kernel
theorem d_Md_receive_148 : decode b_Md_receive 148 = .ok (.invokevirtual 138, 3) := by decide +kernel
theorem d_Md_receive_151 : decode b_Md_receive 151 = .ok (.ifCond .eq 38, 3) := by decide +kernel
theorem d_Md_receive_154 : decode b_Md_receive 154 = .ok (.aload_n 0, 1) := by decide +kernel
theorem d_Md_receive_155 : decode b_Md_receive 155 = .ok (.getfield 56, 3) := by decide +kernel
theorem d_Md_receive_158 : decode b_Md_receive 158 = .ok (.iload 5, 2) := by decide +kernel
theorem d_Md_receive_160 : decode b_Md_receive 160 = .ok (.iaload, 1) := by decide +kernel
theorem d_Md_receive_161 : decode b_Md_receive 161 = .ok (.aload_n 0, 1) := by decide +kernel
theorem d_Md_receive_162 : decode b_Md_receive 162 = .ok (.getfield 90, 3) := by decide +kernel
theorem d_Md_receive_165 : decode b_Md_receive 165 = .ok (.if_icmp .ne 24, 3) := by decide +kernel
theorem d_Md_receive_168 : decode b_Md_receive 168 = .ok (.aload_n 0, 1) := by decide +kernel
theorem d_Md_receive_169 : decode b_Md_receive 169 = .ok (.iload_n 2, 1) := by decide +kernel
theorem d_Md_receive_170 : decode b_Md_receive 170 = .ok (.iload 4, 2) := by decide +kernel
theorem d_Md_receive_172 : decode b_Md_receive 172 = .ok (.aload_n 0, 1) := by decide +kernel
theorem d_Md_receive_173 : decode b_Md_receive 173 = .ok (.getfield 29, 3) := by decide +kernel
theorem d_Md_receive_176 : decode b_Md_receive 176 = .ok (.iload 5, 2) := by decide +kernel
theorem d_Md_receive_178 : decode b_Md_receive 178 = .ok (.iaload, 1) := by decide +kernel
theorem d_Md_receive_179 : decode b_Md_receive 179 = .ok (.aload_n 0, 1) := by decide +kernel
theorem d_Md_receive_180 : decode b_Md_receive 180 = .ok (.getfield 32, 3) := by decide +kernel
theorem d_Md_receive_183 : decode b_Md_receive 183 = .ok (.iload 5, 2) := by decide +kernel
theorem d_Md_receive_185 : decode b_Md_receive 185 = .ok (.iaload, 1) := by decide +kernel
theorem d_Md_receive_186 : decode b_Md_receive 186 = .ok (.invokevirtual 145, 3) := by decide +kernel
theorem d_Md_receive_189 : decode b_Md_receive 189 = .ok (.iload_n 1, 1) := by decide +kernel
theorem d_Md_receive_190 : decode b_Md_receive 190 = .ok (.bipush 6, 2) := by decide +kernel
theorem d_Md_receive_192 : decode b_Md_receive 192 = .ok (.if_icmp .ne 34, 3) := by decide +kernel
theorem d_Md_receive_195 : decode b_Md_receive 195 = .ok (.aload_n 0, 1) := by decide +kernel
theorem d_Md_receive_196 : decode b_Md_receive 196 = .ok (.iload 5, 2) := by decide +kernel
theorem d_Md_receive_198 : decode b_Md_receive 198 = .ok (.iconst 3, 1) := by decide +kernel
theorem d_Md_receive_199 : decode b_Md_receive 199 = .ok (.invokevirtual 138, 3) := by decide +kernel
theorem d_Md_receive_202 : decode b_Md_receive 202 = .ok (.ifCond .eq 24, 3) := by decide +kernel
theorem d_Md_receive_205 : decode b_Md_receive 205 = .ok (.aload_n 0, 1) := by decide +kernel
theorem d_Md_receive_206 : decode b_Md_receive 206 = .ok (.getfield 56, 3) := by decide +kernel
theorem d_Md_receive_209 : decode b_Md_receive 209 = .ok (.iload 5, 2) := by decide +kernel
theorem d_Md_receive_211 : decode b_Md_receive 211 = .ok (.iaload, 1) := by decide +kernel
theorem d_Md_receive_212 : decode b_Md_receive 212 = .ok (.aload_n 0, 1) := by decide +kernel
theorem d_Md_receive_213 : decode b_Md_receive 213 = .ok (.getfield 90, 3) := by decide +kernel
theorem d_Md_receive_216 : decode b_Md_receive 216 = .ok (.if_icmp .ne 10, 3) := by decide +kernel
theorem d_Md_receive_219 : decode b_Md_receive 219 = .ok (.aload_n 0, 1) := by decide +kernel
theorem d_Md_receive_220 : decode b_Md_receive 220 = .ok (.iload_n 2, 1) := by decide +kernel
theorem d_Md_receive_221 : decode b_Md_receive 221 = .ok (.iload 4, 2) := by decide +kernel
theorem d_Md_receive_223 : decode b_Md_receive 223 = .ok (.invokevirtual 148, 3) := by decide +kernel
theorem d_Md_receive_226 : decode b_Md_receive 226 = .ok (.return_, 1) := by decide +kernel
theorem d_Md_deliver_0 : decode b_Md_deliver 0 = .ok (.iload_n 1, 1) := by decide +kernel
theorem d_Md_deliver_1 : decode b_Md_deliver 1 = .ok (.ifCond .lt 11, 3) := by decide +kernel
theorem d_Md_deliver_4 : decode b_Md_deliver 4 = .ok (.iload_n 1, 1) := by decide +kernel
theorem d_Md_deliver_5 : decode b_Md_deliver 5 = .ok (.aload_n 0, 1) := by decide +kernel
theorem d_Md_deliver_6 : decode b_Md_deliver 6 = .ok (.getfield 108, 3) := by decide +kernel
theorem d_Md_deliver_9 : decode b_Md_deliver 9 = .ok (.if_icmp .lt 5, 3) := by decide +kernel
theorem d_Md_deliver_12 : decode b_Md_deliver 12 = .ok (.iconst (-1), 1) := by decide +kernel
theorem d_Md_deliver_13 : decode b_Md_deliver 13 = .ok (.ireturn, 1) := by decide +kernel
theorem d_Md_deliver_14 : decode b_Md_deliver 14 = .ok (.aload_n 0, 1) := by decide +kernel
theorem d_Md_deliver_15 : decode b_Md_deliver 15 = .ok (.iload_n 1, 1) := by decide +kernel
theorem d_Md_deliver_16 : decode b_Md_deliver 16 = .ok (.invokevirtual 118, 3) := by decide +kernel
theorem d_Md_deliver_19 : decode b_Md_deliver 19 = .ok (.aload_n 0, 1) := by decide +kernel
theorem d_Md_deliver_20 : decode b_Md_deliver 20 = .ok (.getfield 80, 3) := by decide +kernel
theorem d_Md_deliver_23 : decode b_Md_deliver 23 = .ok (.sipush 440, 3) := by decide +kernel
theorem d_Md_deliver_26 : decode b_Md_deliver 26 = .ok (.iaload, 1) := by decide +kernel
theorem d_Md_deliver_27 : decode b_Md_deliver 27 = .ok (.istore_n 2, 1) := by decide +kernel
theorem d_Md_deliver_28 : decode b_Md_deliver 28 = .ok (.aload_n 0, 1) := by decide +kernel
theorem d_Md_deliver_29 : decode b_Md_deliver 29 = .ok (.getfield 7, 3) := by decide +kernel
theorem d_Md_deliver_32 : decode b_Md_deliver 32 = .ok (.aload_n 0, 1) := by decide +kernel
theorem d_Md_deliver_33 : decode b_Md_deliver 33 = .ok (.getfield 80, 3) := by decide +kernel
theorem d_Md_deliver_36 : decode b_Md_deliver 36 = .ok (.sipush 442, 3) := by decide +kernel
theorem d_Md_deliver_39 : decode b_Md_deliver 39 = .ok (.iaload, 1) := by decide +kernel
theorem d_Md_deliver_40 : decode b_Md_deliver 40 = .ok (.baload, 1) := by decide +kernel
theorem d_Md_deliver_41 : decode b_Md_deliver 41 = .ok (.ifCond .ne 32, 3) := by decide +kernel
theorem d_Md_deliver_44 : decode b_Md_deliver 44 = .ok (.aload_n 0, 1) := by decide +kernel
theorem d_Md_deliver_45 : decode b_Md_deliver 45 = .ok (.iload_n 2, 1) := by decide +kernel
theorem d_Md_deliver_46 : decode b_Md_deliver 46 = .ok (.aload_n 0, 1) := by decide +kernel
theorem d_Md_deliver_47 : decode b_Md_deliver 47 = .ok (.getfield 80, 3) := by decide +kernel
theorem d_Md_deliver_50 : decode b_Md_deliver 50 = .ok (.sipush 442, 3) := by decide +kernel
theorem d_Md_deliver_53 : decode b_Md_deliver 53 = .ok (.iaload, 1) := by decide +kernel
theorem d_Md_deliver_54 : decode b_Md_deliver 54 = .ok (.aload_n 0, 1) := by decide +kernel
theorem d_Md_deliver_55 : decode b_Md_deliver 55 = .ok (.getfield 80, 3) := by decide +kernel
theorem d_Md_deliver_58 : decode b_Md_deliver 58 = .ok (.sipush 441, 3) := by decide +kernel
theorem d_Md_deliver_61 : decode b_Md_deliver 61 = .ok (.iaload, 1) := by decide +kernel
theorem d_Md_deliver_62 : decode b_Md_deliver 62 = .ok (.aload_n 0, 1) := by decide +kernel
theorem d_Md_deliver_63 : decode b_Md_deliver 63 = .ok (.getfield 80, 3) := by decide +kernel
theorem d_Md_deliver_66 : decode b_Md_deliver 66 = .ok (.sipush 443, 3) := by decide +kernel
theorem d_Md_deliver_69 : decode b_Md_deliver 69 = .ok (.iaload, 1) := by decide +kernel
theorem d_Md_deliver_70 : decode b_Md_deliver 70 = .ok (.invokevirtual 122, 3) := by decide +kernel
theorem d_Md_deliver_73 : decode b_Md_deliver 73 = .ok (.iload_n 2, 1) := by decide +kernel
theorem d_Md_deliver_74 : decode b_Md_deliver 74 = .ok (.ireturn, 1) := by decide +kernel
theorem d_Md_propose_0 : decode b_Md_propose 0 = .ok (.iload_n 1, 1) := by decide +kernel
theorem d_Md_propose_1 : decode b_Md_propose 1 = .ok (.ifCond .lt 29, 3) := by decide +kernel
theorem d_Md_propose_4 : decode b_Md_propose 4 = .ok (.iload_n 1, 1) := by decide +kernel
theorem d_Md_propose_5 : decode b_Md_propose 5 = .ok (.aload_n 0, 1) := by decide +kernel
theorem d_Md_propose_6 : decode b_Md_propose 6 = .ok (.getfield 86, 3) := by decide +kernel
theorem d_Md_propose_9 : decode b_Md_propose 9 = .ok (.if_icmp .ge 21, 3) := by decide +kernel
theorem d_Md_propose_12 : decode b_Md_propose 12 = .ok (.iload_n 2, 1) := by decide +kernel
theorem d_Md_propose_13 : decode b_Md_propose 13 = .ok (.ifCond .lt 17, 3) := by decide +kernel
theorem d_Md_propose_16 : decode b_Md_propose 16 = .ok (.iload_n 2, 1) := by decide +kernel
theorem d_Md_propose_17 : decode b_Md_propose 17 = .ok (.iconst 3, 1) := by decide +kernel
theorem d_Md_propose_18 : decode b_Md_propose 18 = .ok (.if_icmp .gt 12, 3) := by decide +kernel
theorem d_Md_propose_21 : decode b_Md_propose 21 = .ok (.aload_n 0, 1) := by decide +kernel
theorem d_Md_propose_22 : decode b_Md_propose 22 = .ok (.getfield 7, 3) := by decide +kernel
theorem d_Md_propose_25 : decode b_Md_propose 25 = .ok (.iload_n 1, 1) := by decide +kernel
theorem d_Md_propose_26 : decode b_Md_propose 26 = .ok (.baload, 1) := by decide +kernel
theorem d_Md_propose_27 : decode b_Md_propose 27 = .ok (.ifCond .eq 5, 3) := by decide +kernel
theorem d_Md_propose_30 : decode b_Md_propose 30 = .ok (.iconst (-1), 1) := by decide +kernel
theorem d_Md_propose_31 : decode b_Md_propose 31 = .ok (.ireturn, 1) := by decide +kernel
theorem d_Md_propose_32 : decode b_Md_propose 32 = .ok (.bipush 6, 2) := by decide +kernel
theorem d_Md_propose_34 : decode b_Md_propose 34 = .ok (.iload_n 1, 1) := by decide +kernel
theorem d_Md_propose_35 : decode b_Md_propose 35 = .ok (.imul, 1) := by decide +kernel
theorem d_Md_propose_36 : decode b_Md_propose 36 = .ok (.istore 5, 2) := by decide +kernel
theorem d_Md_propose_38 : decode b_Md_propose 38 = .ok (.iload 5, 2) := by decide +kernel
theorem d_Md_propose_40 : decode b_Md_propose 40 = .ok (.bipush 6, 2) := by decide +kernel
theorem d_Md_propose_42 : decode b_Md_propose 42 = .ok (.iload_n 1, 1) := by decide +kernel
theorem d_Md_propose_43 : decode b_Md_propose 43 = .ok (.imul, 1) := by decide +kernel
theorem d_Md_propose_44 : decode b_Md_propose 44 = .ok (.bipush 6, 2) := by decide +kernel
theorem d_Md_propose_46 : decode b_Md_propose 46 = .ok (.iadd, 1) := by decide +kernel
theorem d_Md_propose_47 : decode b_Md_propose 47 = .ok (.if_icmp .ge 117, 3) := by decide +kernel
theorem d_Md_propose_50 : decode b_Md_propose 50 = .ok (.bipush 30, 2) := by decide +kernel
theorem d_Md_propose_52 : decode b_Md_propose 52 = .ok (.iload_n 1, 1) := by decide +kernel
theorem d_Md_propose_53 : decode b_Md_propose 53 = .ok (.imul, 1) := by decide +kernel
theorem d_Md_propose_54 : decode b_Md_propose 54 = .ok (.iload 5, 2) := by decide +kernel
theorem d_Md_propose_56 : decode b_Md_propose 56 = .ok (.iadd, 1) := by decide +kernel
theorem d_Md_propose_57 : decode b_Md_propose 57 = .ok (.istore 6, 2) := by decide +kernel
theorem d_Md_propose_59 : decode b_Md_propose 59 = .ok (.aload_n 0, 1) := by decide +kernel
theorem d_Md_propose_60 : decode b_Md_propose 60 = .ok (.getfield 20, 3) := by decide +kernel
theorem d_Md_propose_63 : decode b_Md_propose 63 = .ok (.iload 6, 2) := by decide +kernel
theorem d_Md_propose_65 : decode b_Md_propose 65 = .ok (.iaload, 1) := by decide +kernel
theorem d_Md_propose_66 : decode b_Md_propose 66 = .ok (.ifCond .ne 92, 3) := by decide +kernel
theorem d_Md_propose_69 : decode b_Md_propose 69 = .ok (.aload_n 0, 1) := by decide +kernel
theorem d_Md_propose_70 : decode b_Md_propose 70 = .ok (.getfield 35, 3) := by decide +kernel
theorem d_Md_propose_73 : decode b_Md_propose 73 = .ok (.iload 6, 2) := by decide +kernel
theorem d_Md_propose_75 : decode b_Md_propose 75 = .ok (.iaload, 1) := by decide +kernel
theorem d_Md_propose_76 : decode b_Md_propose 76 = .ok (.ifCond .ne 82, 3) := by decide +kernel
theorem d_Md_propose_79 : decode b_Md_propose 79 = .ok (.aload_n 0, 1) := by decide +kernel
theorem d_Md_propose_80 : decode b_Md_propose 80 = .ok (.iload_n 1, 1) := by decide +kernel
theorem d_Md_propose_81 : decode b_Md_propose 81 = .ok (.iload 5, 2) := by decide +kernel
theorem d_Md_propose_83 : decode b_Md_propose 83 = .ok (.iload_n 3, 1) := by decide +kernel
theorem d_Md_propose_84 : decode b_Md_propose 84 = .ok (.ifCond .eq 9, 3) := by decide +kernel
theorem d_Md_propose_87 : decode b_Md_propose 87 = .ok (.iconst 4, 1) := by decide +kernel
theorem d_Md_propose_88 : decode b_Md_propose 88 = .ok (.iload_n 2, 1) := by decide +kernel
theorem d_Md_propose_89 : decode b_Md_propose 89 = .ok (.iadd, 1) := by decide +kernel
theorem d_Md_propose_90 : decode b_Md_propose 90 = .ok (.goto 4, 3) := by decide +kernel
theorem d_Md_propose_93 : decode b_Md_propose 93 = .ok (.iload_n 2, 1) := by decide +kernel
theorem d_Md_propose_94 : decode b_Md_propose 94 = .ok (.iload_n 3, 1) := by decide +kernel
theorem d_Md_propose_95 : decode b_Md_propose 95 = .ok (.ifCond .eq 8, 3) := by decide +kernel
theorem d_Md_propose_98 : decode b_Md_propose 98 = .ok (.iload 4, 2) := by decide +kernel
theorem d_Md_propose_100 : decode b_Md_propose 100 = .ok (.goto 4, 3) := by decide +kernel
theorem d_Md_propose_103 : decode b_Md_propose 103 = .ok (.iconst 0, 1) := by decide +kernel
theorem d_Md_propose_104 : decode b_Md_propose 104 = .ok (.iconst 1, 1) := by decide +kernel
theorem d_Md_propose_105 : decode b_Md_propose 105 = .ok (.iconst 0, 1) := by decide +kernel
theorem d_Md_propose_106 : decode b_Md_propose 106 = .ok (.invokevirtual 151, 3) := by decide +kernel
theorem d_Md_propose_109 : decode b_Md_propose 109 = .ok (.aload_n 0, 1) := by decide +kernel
theorem d_Md_propose_110 : decode b_Md_propose 110 = .ok (.iload 6, 2) := by decide +kernel
theorem d_Md_propose_112 : decode b_Md_propose 112 = .ok (.iconst 0, 1) := by decide +kernel
theorem d_Md_propose_113 : decode b_Md_propose 113 = .ok (.iconst 0, 1) := by decide +kernel
theorem d_Md_propose_114 : decode b_Md_propose 114 = .ok (.invokevirtual 158, 3) := by decide +kernel
theorem d_Md_propose_117 : decode b_Md_propose 117 = .ok (.iconst 1, 1) := by decide +kernel
theorem d_Md_propose_118 : decode b_Md_propose 118 = .ok (.istore 7, 2) := by decide +kernel
theorem d_Md_propose_120 : decode b_Md_propose 120 = .ok (.iload 7, 2) := by decide +kernel
theorem d_Md_propose_122 : decode b_Md_propose 122 = .ok (.aload_n 0, 1) := by decide +kernel
theorem d_Md_propose_123 : decode b_Md_propose 123 = .ok (.getfield 86, 3) := by decide +kernel
theorem d_Md_propose_126 : decode b_Md_propose 126 = .ok (.iconst 2, 1) := by decide +kernel
theorem d_Md_propose_127 : decode b_Md_propose 127 = .ok (.isub, 1) := by decide +kernel
theorem d_Md_propose_128 : decode b_Md_propose 128 = .ok (.if_icmp .gt 27, 3) := by decide +kernel
theorem d_Md_propose_131 : decode b_Md_propose 131 = .ok (.aload_n 0, 1) := by decide +kernel
theorem d_Md_propose_132 : decode b_Md_propose 132 = .ok (.iconst 0, 1) := by decide +kernel
theorem d_Md_propose_133 : decode b_Md_propose 133 = .ok (.iload_n 1, 1) := by decide +kernel
theorem d_Md_propose_134 : decode b_Md_propose 134 = .ok (.iload_n 1, 1) := by decide +kernel
theorem d_Md_propose_135 : decode b_Md_propose 135 = .ok (.iload 7, 2) := by decide +kernel
theorem d_Md_propose_137 : decode b_Md_propose 137 = .ok (.iadd, 1) := by decide +kernel
theorem d_Md_propose_138 : decode b_Md_propose 138 = .ok (.aload_n 0, 1) := by decide +kernel
theorem d_Md_propose_139 : decode b_Md_propose 139 = .ok (.getfield 86, 3) := by decide +kernel
theorem d_Md_propose_142 : decode b_Md_propose 142 = .ok (.irem, 1) := by decide +kernel
theorem d_Md_propose_143 : decode b_Md_propose 143 = .ok (.iload 5, 2) := by decide +kernel
theorem d_Md_propose_145 : decode b_Md_propose 145 = .ok (.iconst 0, 1) := by decide +kernel
theorem d_Md_propose_146 : decode b_Md_propose 146 = .ok (.invokevirtual 114, 3) := by decide +kernel
theorem d_Md_propose_149 : decode b_Md_propose 149 = .ok (.iinc 7 1, 3) := by decide +kernel
theorem d_Md_propose_152 : decode b_Md_propose 152 = .ok (.goto (-32), 3) := by decide +kernel
theorem d_Md_propose_155 : decode b_Md_propose 155 = .ok (.iload 5, 2) := by decide +kernel
theorem d_Md_propose_157 : decode b_Md_propose 157 = .ok (.ireturn, 1) := by decide +kernel
theorem d_Md_propose_158 : decode b_Md_propose 158 = .ok (.iinc 5 1, 3) := by decide +kernel
theorem d_Md_propose_161 : decode b_Md_propose 161 = .ok (.goto (-123), 3) := by decide +kernel
theorem d_Md_propose_164 : decode b_Md_propose 164 = .ok (.iconst (-1), 1) := by decide +kernel
theorem d_Md_propose_165 : decode b_Md_propose 165 = .ok (.ireturn, 1) := by decide +kernel
theorem d_Md_prepare_0 : decode b_Md_prepare 0 = .ok (.aload_n 0, 1) := by decide +kernel
theorem d_Md_prepare_1 : decode b_Md_prepare 1 = .ok (.iload_n 1, 1) := by decide +kernel
theorem d_Md_prepare_2 : decode b_Md_prepare 2 = .ok (.iload_n 2, 1) := by decide +kernel
theorem d_Md_prepare_3 : decode b_Md_prepare 3 = .ok (.invokevirtual 178, 3) := by decide +kernel
theorem d_Md_prepare_6 : decode b_Md_prepare 6 = .ok (.ifCond .eq 27, 3) := by decide +kernel
theorem d_Md_prepare_9 : decode b_Md_prepare 9 = .ok (.aload_n 0, 1) := by decide +kernel
theorem d_Md_prepare_10 : decode b_Md_prepare 10 = .ok (.getfield 7, 3) := by decide +kernel
theorem d_Md_prepare_13 : decode b_Md_prepare 13 = .ok (.iload_n 1, 1) := by decide +kernel
theorem d_Md_prepare_14 : decode b_Md_prepare 14 = .ok (.baload, 1) := by decide +kernel
theorem d_Md_prepare_15 : decode b_Md_prepare 15 = .ok (.ifCond .ne 18, 3) := by decide +kernel
theorem d_Md_prepare_18 : decode b_Md_prepare 18 = .ok (.aload_n 0, 1) := by decide +kernel
theorem d_Md_prepare_19 : decode b_Md_prepare 19 = .ok (.getfield 20, 3) := by decide +kernel
theorem d_Md_prepare_22 : decode b_Md_prepare 22 = .ok (.bipush 30, 2) := by decide +kernel
theorem d_Md_prepare_24 : decode b_Md_prepare 24 = .ok (.iload_n 1, 1) := by decide +kernel
theorem d_Md_prepare_25 : decode b_Md_prepare 25 = .ok (.imul, 1) := by decide +kernel
theorem d_Md_prepare_26 : decode b_Md_prepare 26 = .ok (.iload_n 2, 1) := by decide +kernel
theorem d_Md_prepare_27 : decode b_Md_prepare 27 = .ok (.iadd, 1) := by decide +kernel
theorem d_Md_prepare_28 : decode b_Md_prepare 28 = .ok (.iaload, 1) := by decide +kernel
theorem d_Md_prepare_29 : decode b_Md_prepare 29 = .ok (.iconst 3, 1) := by decide +kernel
theorem d_Md_prepare_30 : decode b_Md_prepare 30 = .ok (.if_icmp .lt 5, 3) := by decide +kernel
theorem d_Md_prepare_33 : decode b_Md_prepare 33 = .ok (.iconst (-1), 1) := by decide +kernel
theorem d_Md_prepare_34 : decode b_Md_prepare 34 = .ok (.ireturn, 1) := by decide +kernel
theorem d_Md_prepare_35 : decode b_Md_prepare 35 = .ok (.bipush 30, 2) := by decide +kernel
theorem d_Md_prepare_37 : decode b_Md_prepare 37 = .ok (.iload_n 1, 1) := by decide +kernel
theorem d_Md_prepare_38 : decode b_Md_prepare 38 = .ok (.imul, 1) := by decide +kernel
theorem d_Md_prepare_39 : decode b_Md_prepare 39 = .ok (.iload_n 2, 1) := by decide +kernel
theorem d_Md_prepare_40 : decode b_Md_prepare 40 = .ok (.iadd, 1) := by decide +kernel
theorem d_Md_prepare_41 : decode b_Md_prepare 41 = .ok (.istore_n 3, 1) := by decide +kernel
theorem d_Md_prepare_42 : decode b_Md_prepare 42 = .ok (.aload_n 0, 1) := by decide +kernel
theorem d_Md_prepare_43 : decode b_Md_prepare 43 = .ok (.getfield 35, 3) := by decide +kernel
theorem d_Md_prepare_46 : decode b_Md_prepare 46 = .ok (.iload_n 3, 1) := by decide +kernel
theorem d_Md_prepare_47 : decode b_Md_prepare 47 = .ok (.iaload, 1) := by decide +kernel
theorem d_Md_prepare_48 : decode b_Md_prepare 48 = .ok (.iconst 1, 1) := by decide +kernel
theorem d_Md_prepare_49 : decode b_Md_prepare 49 = .ok (.iadd, 1) := by decide +kernel
theorem d_Md_prepare_50 : decode b_Md_prepare 50 = .ok (.istore 4, 2) := by decide +kernel
theorem d_Md_prepare_52 : decode b_Md_prepare 52 = .ok (.iload 4, 2) := by decide +kernel
theorem d_Md_prepare_54 : decode b_Md_prepare 54 = .ok (.aload_n 0, 1) := by decide +kernel
theorem d_Md_prepare_55 : decode b_Md_prepare 55 = .ok (.getfield 86, 3) := by decide +kernel
theorem d_Md_prepare_58 : decode b_Md_prepare 58 = .ok (.irem, 1) := by decide +kernel
theorem d_Md_prepare_59 : decode b_Md_prepare 59 = .ok (.iload_n 1, 1) := by decide +kernel
theorem d_Md_prepare_60 : decode b_Md_prepare 60 = .ok (.if_icmp .eq 9, 3) := by decide +kernel
theorem d_Md_prepare_63 : decode b_Md_prepare 63 = .ok (.iinc 4 1, 3) := by decide +kernel
theorem d_Md_prepare_66 : decode b_Md_prepare 66 = .ok (.goto (-14), 3) := by decide +kernel
theorem d_Md_prepare_69 : decode b_Md_prepare 69 = .ok (.aload_n 0, 1) := by decide +kernel
theorem d_Md_prepare_70 : decode b_Md_prepare 70 = .ok (.getfield 35, 3) := by decide +kernel
theorem d_Md_prepare_73 : decode b_Md_prepare 73 = .ok (.iload_n 3, 1) := by decide +kernel
theorem d_Md_prepare_74 : decode b_Md_prepare 74 = .ok (.iload 4, 2) := by decide +kernel
theorem d_Md_prepare_76 : decode b_Md_prepare 76 = .ok (.iastore, 1) := by decide +kernel
theorem d_Md_prepare_77 : decode b_Md_prepare 77 = .ok (.aload_n 0, 1) := by decide +kernel
theorem d_Md_prepare_78 : decode b_Md_prepare 78 = .ok (.iload_n 3, 1) := by decide +kernel
theorem d_Md_prepare_79 : decode b_Md_prepare 79 = .ok (.iconst 3, 1) := by decide +kernel
theorem d_Md_prepare_80 : decode b_Md_prepare 80 = .ok (.iload 4, 2) := by decide +kernel
theorem d_Md_prepare_82 : decode b_Md_prepare 82 = .ok (.invokevirtual 158, 3) := by decide +kernel
theorem d_Md_prepare_85 : decode b_Md_prepare 85 = .ok (.aload_n 0, 1) := by decide +kernel
theorem d_Md_prepare_86 : decode b_Md_prepare 86 = .ok (.iconst 5, 1) := by decide +kernel
theorem d_Md_prepare_87 : decode b_Md_prepare 87 = .ok (.iload_n 1, 1) := by decide +kernel
theorem d_Md_prepare_88 : decode b_Md_prepare 88 = .ok (.iload_n 2, 1) := by decide +kernel
theorem d_Md_prepare_89 : decode b_Md_prepare 89 = .ok (.iload 4, 2) := by decide +kernel
theorem d_Md_prepare_91 : decode b_Md_prepare 91 = .ok (.invokevirtual 161, 3) := by decide +kernel
theorem d_Md_prepare_94 : decode b_Md_prepare 94 = .ok (.iload 4, 2) := by decide +kernel
theorem d_Md_prepare_96 : decode b_Md_prepare 96 = .ok (.ireturn, 1) := by decide +kernel
theorem d_Md_crash_0 : decode b_Md_crash 0 = .ok (.iconst 0, 1) := by decide +kernel
theorem d_Md_crash_1 : decode b_Md_crash 1 = .ok (.istore_n 2, 1) := by decide +kernel
theorem d_Md_crash_2 : decode b_Md_crash 2 = .ok (.iconst 0, 1) := by decide +kernel
theorem d_Md_crash_3 : decode b_Md_crash 3 = .ok (.istore_n 3, 1) := by decide +kernel
theorem d_Md_crash_4 : decode b_Md_crash 4 = .ok (.iload_n 3, 1) := by decide +kernel
theorem d_Md_crash_5 : decode b_Md_crash 5 = .ok (.aload_n 0, 1) := by decide +kernel
theorem d_Md_crash_6 : decode b_Md_crash 6 = .ok (.getfield 86, 3) := by decide +kernel
theorem d_Md_crash_9 : decode b_Md_crash 9 = .ok (.if_icmp .ge 26, 3) := by decide +kernel
theorem d_Md_crash_12 : decode b_Md_crash 12 = .ok (.iload_n 2, 1) := by decide +kernel
theorem d_Md_crash_13 : decode b_Md_crash 13 = .ok (.aload_n 0, 1) := by decide +kernel
theorem d_Md_crash_14 : decode b_Md_crash 14 = .ok (.getfield 7, 3) := by decide +kernel
theorem d_Md_crash_17 : decode b_Md_crash 17 = .ok (.iload_n 3, 1) := by decide +kernel
theorem d_Md_crash_18 : decode b_Md_crash 18 = .ok (.baload, 1) := by decide +kernel
theorem d_Md_crash_19 : decode b_Md_crash 19 = .ok (.ifCond .eq 7, 3) := by decide +kernel
theorem d_Md_crash_22 : decode b_Md_crash 22 = .ok (.iconst 1, 1) := by decide +kernel
theorem d_Md_crash_23 : decode b_Md_crash 23 = .ok (.goto 4, 3) := by decide +kernel
theorem d_Md_crash_26 : decode b_Md_crash 26 = .ok (.iconst 0, 1) := by decide +kernel
theorem d_Md_crash_27 : decode b_Md_crash 27 = .ok (.iadd, 1) := by decide +kernel
theorem d_Md_crash_28 : decode b_Md_crash 28 = .ok (.istore_n 2, 1) := by decide +kernel
theorem d_Md_crash_29 : decode b_Md_crash 29 = .ok (.iinc 3 1, 3) := by decide +kernel
theorem d_Md_crash_32 : decode b_Md_crash 32 = .ok (.goto (-28), 3) := by decide +kernel
theorem d_Md_crash_35 : decode b_Md_crash 35 = .ok (.iload_n 1, 1) := by decide +kernel
theorem d_Md_crash_36 : decode b_Md_crash 36 = .ok (.ifCond .lt 28, 3) := by decide +kernel
theorem d_Md_crash_39 : decode b_Md_crash 39 = .ok (.iload_n 1, 1) := by decide +kernel
theorem d_Md_crash_40 : decode b_Md_crash 40 = .ok (.aload_n 0, 1) := by decide +kernel
theorem d_Md_crash_41 : decode b_Md_crash 41 = .ok (.getfield 86, 3) := by decide +kernel
theorem d_Md_crash_44 : decode b_Md_crash 44 = .ok (.if_icmp .ge 20, 3) := by decide +kernel
theorem d_Md_crash_47 : decode b_Md_crash 47 = .ok (.aload_n 0, 1) := by decide +kernel
theorem d_Md_crash_48 : decode b_Md_crash 48 = .ok (.getfield 7, 3) := by decide +kernel
theorem d_Md_crash_51 : decode b_Md_crash 51 = .ok (.iload_n 1, 1) := by decide +kernel
theorem d_Md_crash_52 : decode b_Md_crash 52 = .ok (.baload, 1) := by decide +kernel
theorem d_Md_crash_53 : decode b_Md_crash 53 = .ok (.ifCond .ne 11, 3) := by decide +kernel
theorem d_Md_crash_56 : decode b_Md_crash 56 = .ok (.iload_n 2, 1) := by decide +kernel
theorem d_Md_crash_57 : decode b_Md_crash 57 = .ok (.aload_n 0, 1) := by decide +kernel
theorem d_Md_crash_58 : decode b_Md_crash 58 = .ok (.getfield 90, 3) := by decide +kernel
theorem d_Md_crash_61 : decode b_Md_crash 61 = .ok (.if_icmp .lt 5, 3) := by decide +kernel
theorem d_Md_crash_64 : decode b_Md_crash 64 = .ok (.iconst 0, 1) := by decide +kernel
theorem d_Md_crash_65 : decode b_Md_crash 65 = .ok (.ireturn, 1) := by decide +kernel
theorem d_Md_crash_66 : decode b_Md_crash 66 = .ok (.aload_n 0, 1) := by decide +kernel
theorem d_Md_crash_67 : decode b_Md_crash 67 = .ok (.getfield 7, 3) := by decide +kernel
theorem d_Md_crash_70 : decode b_Md_crash 70 = .ok (.iload_n 1, 1) := by decide +kernel
theorem d_Md_crash_71 : decode b_Md_crash 71 = .ok (.iconst 1, 1) := by decide +kernel
theorem d_Md_crash_72 : decode b_Md_crash 72 = .ok (.bastore, 1) := by decide +kernel
theorem d_Md_crash_73 : decode b_Md_crash 73 = .ok (.iconst 1, 1) := by decide +kernel
theorem d_Md_crash_74 : decode b_Md_crash 74 = .ok (.ireturn, 1) := by decide +kernel
theorem d_Md_reachable_0 : decode b_Md_reachable 0 = .ok (.iconst 0, 1) := by decide +kernel
theorem d_Md_reachable_1 : decode b_Md_reachable 1 = .ok (.istore_n 2, 1) := by decide +kernel
theorem d_Md_reachable_2 : decode b_Md_reachable 2 = .ok (.iconst 0, 1) := by decide +kernel
theorem d_Md_reachable_3 : decode b_Md_reachable 3 = .ok (.istore_n 3, 1) := by decide +kernel
theorem d_Md_reachable_4 : decode b_Md_reachable 4 = .ok (.iload_n 3, 1) := by decide +kernel
theorem d_Md_reachable_5 : decode b_Md_reachable 5 = .ok (.aload_n 0, 1) := by decide +kernel
theorem d_Md_reachable_6 : decode b_Md_reachable 6 = .ok (.getfield 93, 3) := by decide +kernel
theorem d_Md_reachable_9 : decode b_Md_reachable 9 = .ok (.if_icmp .ge 34, 3) := by decide +kernel
theorem d_Md_reachable_12 : decode b_Md_reachable 12 = .ok (.aload_n 0, 1) := by decide +kernel
theorem d_Md_reachable_13 : decode b_Md_reachable 13 = .ok (.getfield 20, 3) := by decide +kernel
theorem d_Md_reachable_16 : decode b_Md_reachable 16 = .ok (.bipush 30, 2) := by decide +kernel
theorem d_Md_reachable_18 : decode b_Md_reachable 18 = .ok (.iload_n 1, 1) := by decide +kernel
theorem d_Md_reachable_19 : decode b_Md_reachable 19 = .ok (.imul, 1) := by decide +kernel
theorem d_Md_reachable_20 : decode b_Md_reachable 20 = .ok (.iload_n 3, 1) := by decide +kernel
theorem d_Md_reachable_21 : decode b_Md_reachable 21 = .ok (.iadd, 1) := by decide +kernel
theorem d_Md_reachable_22 : decode b_Md_reachable 22 = .ok (.iaload, 1) := by decide +kernel
theorem d_Md_reachable_23 : decode b_Md_reachable 23 = .ok (.iconst 3, 1) := by decide +kernel
theorem d_Md_reachable_24 : decode b_Md_reachable 24 = .ok (.if_icmp .ne 11, 3) := by decide +kernel
theorem d_Md_reachable_27 : decode b_Md_reachable 27 = .ok (.iload_n 2, 1) := by decide +kernel
theorem d_Md_reachable_28 : decode b_Md_reachable 28 = .ok (.iconst 1, 1) := by decide +kernel
theorem d_Md_reachable_29 : decode b_Md_reachable 29 = .ok (.iload_n 3, 1) := by decide +kernel
theorem d_Md_reachable_30 : decode b_Md_reachable 30 = .ok (.ishl, 1) := by decide +kernel
theorem d_Md_reachable_31 : decode b_Md_reachable 31 = .ok (.ior, 1) := by decide +kernel
theorem d_Md_reachable_32 : decode b_Md_reachable 32 = .ok (.goto 4, 3) := by decide +kernel
theorem d_Md_reachable_35 : decode b_Md_reachable 35 = .ok (.iload_n 2, 1) := by decide +kernel
theorem d_Md_reachable_36 : decode b_Md_reachable 36 = .ok (.istore_n 2, 1) := by decide +kernel
theorem d_Md_reachable_37 : decode b_Md_reachable 37 = .ok (.iinc 3 1, 3) := by decide +kernel
theorem d_Md_reachable_40 : decode b_Md_reachable 40 = .ok (.goto (-36), 3) := by decide +kernel
theorem d_Md_reachable_43 : decode b_Md_reachable 43 = .ok (.iconst 0, 1) := by decide +kernel
theorem d_Md_reachable_44 : decode b_Md_reachable 44 = .ok (.istore_n 3, 1) := by decide +kernel
theorem d_Md_reachable_45 : decode b_Md_reachable 45 = .ok (.iload_n 3, 1) := by decide +kernel
theorem d_Md_reachable_46 : decode b_Md_reachable 46 = .ok (.aload_n 0, 1) := by decide +kernel
theorem d_Md_reachable_47 : decode b_Md_reachable 47 = .ok (.getfield 93, 3) := by decide +kernel
theorem d_Md_reachable_50 : decode b_Md_reachable 50 = .ok (.if_icmp .ge 45, 3) := by decide +kernel
theorem d_Md_reachable_53 : decode b_Md_reachable 53 = .ok (.aload_n 0, 1) := by decide +kernel
theorem d_Md_reachable_54 : decode b_Md_reachable 54 = .ok (.getfield 83, 3) := by decide +kernel
theorem d_Md_reachable_57 : decode b_Md_reachable 57 = .ok (.iload_n 3, 1) := by decide +kernel
theorem d_Md_reachable_58 : decode b_Md_reachable 58 = .ok (.iload_n 2, 1) := by decide +kernel
theorem d_Md_reachable_59 : decode b_Md_reachable 59 = .ok (.iload_n 3, 1) := by decide +kernel
theorem d_Md_reachable_60 : decode b_Md_reachable 60 = .ok (.ishr, 1) := by decide +kernel
theorem d_Md_reachable_61 : decode b_Md_reachable 61 = .ok (.iconst 1, 1) := by decide +kernel
theorem d_Md_reachable_62 : decode b_Md_reachable 62 = .ok (.iand, 1) := by decide +kernel
theorem d_Md_reachable_63 : decode b_Md_reachable 63 = .ok (.iconst 1, 1) := by decide +kernel
theorem d_Md_reachable_64 : decode b_Md_reachable 64 = .ok (.if_icmp .ne 23, 3) := by decide +kernel
theorem d_Md_reachable_67 : decode b_Md_reachable 67 = .ok (.aload_n 0, 1) := by decide +kernel
theorem d_Md_reachable_68 : decode b_Md_reachable 68 = .ok (.getfield 32, 3) := by decide +kernel
theorem d_Md_reachable_71 : decode b_Md_reachable 71 = .ok (.bipush 30, 2) := by decide +kernel
theorem d_Md_reachable_73 : decode b_Md_reachable 73 = .ok (.iload_n 1, 1) := by decide +kernel
theorem d_Md_reachable_74 : decode b_Md_reachable 74 = .ok (.imul, 1) := by decide +kernel
theorem d_Md_reachable_75 : decode b_Md_reachable 75 = .ok (.iload_n 3, 1) := by decide +kernel
theorem d_Md_reachable_76 : decode b_Md_reachable 76 = .ok (.iadd, 1) := by decide +kernel
theorem d_Md_reachable_77 : decode b_Md_reachable 77 = .ok (.iaload, 1) := by decide +kernel
theorem d_Md_reachable_78 : decode b_Md_reachable 78 = .ok (.iload_n 2, 1) := by decide +kernel
theorem d_Md_reachable_79 : decode b_Md_reachable 79 = .ok (.iand, 1) := by decide +kernel
theorem d_Md_reachable_80 : decode b_Md_reachable 80 = .ok (.iconst 1, 1) := by decide +kernel
theorem d_Md_reachable_81 : decode b_Md_reachable 81 = .ok (.iload_n 3, 1) := by decide +kernel
theorem d_Md_reachable_82 : decode b_Md_reachable 82 = .ok (.ishl, 1) := by decide +kernel
theorem d_Md_reachable_83 : decode b_Md_reachable 83 = .ok (.ior, 1) := by decide +kernel
theorem d_Md_reachable_84 : decode b_Md_reachable 84 = .ok (.goto 4, 3) := by decide +kernel
theorem d_Md_reachable_87 : decode b_Md_reachable 87 = .ok (.iconst 0, 1) := by decide +kernel
theorem d_Md_reachable_88 : decode b_Md_reachable 88 = .ok (.iastore, 1) := by decide +kernel
theorem d_Md_reachable_89 : decode b_Md_reachable 89 = .ok (.iinc 3 1, 3) := by decide +kernel
theorem d_Md_reachable_92 : decode b_Md_reachable 92 = .ok (.goto (-47), 3) := by decide +kernel
theorem d_Md_reachable_95 : decode b_Md_reachable 95 = .ok (.iconst 0, 1) := by decide +kernel
theorem d_Md_reachable_96 : decode b_Md_reachable 96 = .ok (.istore_n 3, 1) := by decide +kernel
theorem d_Md_reachable_97 : decode b_Md_reachable 97 = .ok (.iload_n 3, 1) := by decide +kernel
theorem d_Md_reachable_98 : decode b_Md_reachable 98 = .ok (.aload_n 0, 1) := by decide +kernel
theorem d_Md_reachable_99 : decode b_Md_reachable 99 = .ok (.getfield 93, 3) := by decide +kernel
theorem d_Md_reachable_102 : decode b_Md_reachable 102 = .ok (.if_icmp .ge 63, 3) := by decide +kernel
theorem d_Md_reachable_105 : decode b_Md_reachable 105 = .ok (.iconst 0, 1) := by decide +kernel
theorem d_Md_reachable_106 : decode b_Md_reachable 106 = .ok (.istore 4, 2) := by decide +kernel
theorem d_Md_reachable_108 : decode b_Md_reachable 108 = .ok (.iload 4, 2) := by decide +kernel
theorem d_Md_reachable_110 : decode b_Md_reachable 110 = .ok (.aload_n 0, 1) := by decide +kernel
theorem d_Md_reachable_111 : decode b_Md_reachable 111 = .ok (.getfield 93, 3) := by decide +kernel
theorem d_Md_reachable_114 : decode b_Md_reachable 114 = .ok (.if_icmp .ge 45, 3) := by decide +kernel
theorem d_Md_reachable_117 : decode b_Md_reachable 117 = .ok (.aload_n 0, 1) := by decide +kernel
theorem d_Md_reachable_118 : decode b_Md_reachable 118 = .ok (.getfield 83, 3) := by decide +kernel
theorem d_Md_reachable_121 : decode b_Md_reachable 121 = .ok (.iload 4, 2) := by decide +kernel
theorem d_Md_reachable_123 : decode b_Md_reachable 123 = .ok (.iaload, 1) := by decide +kernel
theorem d_Md_reachable_124 : decode b_Md_reachable 124 = .ok (.iload_n 3, 1) := by decide +kernel
theorem d_Md_reachable_125 : decode b_Md_reachable 125 = .ok (.ishr, 1) := by decide +kernel
theorem d_Md_reachable_126 : decode b_Md_reachable 126 = .ok (.iconst 1, 1) := by decide +kernel
theorem d_Md_reachable_127 : decode b_Md_reachable 127 = .ok (.iand, 1) := by decide +kernel
theorem d_Md_reachable_128 : decode b_Md_reachable 128 = .ok (.iconst 1, 1) := by decide +kernel
theorem d_Md_reachable_129 : decode b_Md_reachable 129 = .ok (.if_icmp .ne 24, 3) := by decide +kernel
theorem d_Md_reachable_132 : decode b_Md_reachable 132 = .ok (.aload_n 0, 1) := by decide +kernel
theorem d_Md_reachable_133 : decode b_Md_reachable 133 = .ok (.getfield 83, 3) := by decide +kernel
theorem d_Md_reachable_136 : decode b_Md_reachable 136 = .ok (.iload 4, 2) := by decide +kernel
theorem d_Md_reachable_138 : decode b_Md_reachable 138 = .ok (.aload_n 0, 1) := by decide +kernel
theorem d_Md_reachable_139 : decode b_Md_reachable 139 = .ok (.getfield 83, 3) := by decide +kernel
theorem d_Md_reachable_142 : decode b_Md_reachable 142 = .ok (.iload 4, 2) := by decide +kernel
theorem d_Md_reachable_144 : decode b_Md_reachable 144 = .ok (.iaload, 1) := by decide +kernel
theorem d_Md_reachable_145 : decode b_Md_reachable 145 = .ok (.aload_n 0, 1) := by decide +kernel
theorem d_Md_reachable_146 : decode b_Md_reachable 146 = .ok (.getfield 83, 3) := by decide +kernel
theorem d_Md_reachable_149 : decode b_Md_reachable 149 = .ok (.iload_n 3, 1) := by decide +kernel
theorem d_Md_reachable_150 : decode b_Md_reachable 150 = .ok (.iaload, 1) := by decide +kernel
theorem d_Md_reachable_151 : decode b_Md_reachable 151 = .ok (.ior, 1) := by decide +kernel
theorem d_Md_reachable_152 : decode b_Md_reachable 152 = .ok (.iastore, 1) := by decide +kernel
theorem d_Md_reachable_153 : decode b_Md_reachable 153 = .ok (.iinc 4 1, 3) := by decide +kernel
theorem d_Md_reachable_156 : decode b_Md_reachable 156 = .ok (.goto (-48), 3) := by decide +kernel
theorem d_Md_reachable_159 : decode b_Md_reachable 159 = .ok (.iinc 3 1, 3) := by decide +kernel
theorem d_Md_reachable_162 : decode b_Md_reachable 162 = .ok (.goto (-65), 3) := by decide +kernel
theorem d_Md_reachable_165 : decode b_Md_reachable 165 = .ok (.return_, 1) := by decide +kernel
theorem d_Md_component_0 : decode b_Md_component 0 = .ok (.iconst 0, 1) := by decide +kernel
theorem d_Md_component_1 : decode b_Md_component 1 = .ok (.istore_n 2, 1) := by decide +kernel
theorem d_Md_component_2 : decode b_Md_component 2 = .ok (.iconst 0, 1) := by decide +kernel
theorem d_Md_component_3 : decode b_Md_component 3 = .ok (.istore_n 3, 1) := by decide +kernel
theorem d_Md_component_4 : decode b_Md_component 4 = .ok (.iload_n 3, 1) := by decide +kernel
theorem d_Md_component_5 : decode b_Md_component 5 = .ok (.aload_n 0, 1) := by decide +kernel
theorem d_Md_component_6 : decode b_Md_component 6 = .ok (.getfield 93, 3) := by decide +kernel
theorem d_Md_component_9 : decode b_Md_component 9 = .ok (.if_icmp .ge 43, 3) := by decide +kernel
theorem d_Md_component_12 : decode b_Md_component 12 = .ok (.aload_n 0, 1) := by decide +kernel
theorem d_Md_component_13 : decode b_Md_component 13 = .ok (.getfield 83, 3) := by decide +kernel
theorem d_Md_component_16 : decode b_Md_component 16 = .ok (.iload_n 1, 1) := by decide +kernel
theorem d_Md_component_17 : decode b_Md_component 17 = .ok (.iaload, 1) := by decide +kernel
theorem d_Md_component_18 : decode b_Md_component 18 = .ok (.iload_n 3, 1) := by decide +kernel
theorem d_Md_component_19 : decode b_Md_component 19 = .ok (.ishr, 1) := by decide +kernel
theorem d_Md_component_20 : decode b_Md_component 20 = .ok (.iconst 1, 1) := by decide +kernel
theorem d_Md_component_21 : decode b_Md_component 21 = .ok (.iand, 1) := by decide +kernel
theorem d_Md_component_22 : decode b_Md_component 22 = .ok (.iconst 1, 1) := by decide +kernel
theorem d_Md_component_23 : decode b_Md_component 23 = .ok (.if_icmp .ne 23, 3) := by decide +kernel
theorem d_Md_component_26 : decode b_Md_component 26 = .ok (.aload_n 0, 1) := by decide +kernel
theorem d_Md_component_27 : decode b_Md_component 27 = .ok (.getfield 83, 3) := by decide +kernel
theorem d_Md_component_30 : decode b_Md_component 30 = .ok (.iload_n 3, 1) := by decide +kernel
theorem d_Md_component_31 : decode b_Md_component 31 = .ok (.iaload, 1) := by decide +kernel
theorem d_Md_component_32 : decode b_Md_component 32 = .ok (.iload_n 1, 1) := by decide +kernel
theorem d_Md_component_33 : decode b_Md_component 33 = .ok (.ishr, 1) := by decide +kernel
theorem d_Md_component_34 : decode b_Md_component 34 = .ok (.iconst 1, 1) := by decide +kernel
theorem d_Md_component_35 : decode b_Md_component 35 = .ok (.iand, 1) := by decide +kernel
theorem d_Md_component_36 : decode b_Md_component 36 = .ok (.iconst 1, 1) := by decide +kernel
theorem d_Md_component_37 : decode b_Md_component 37 = .ok (.if_icmp .ne 9, 3) := by decide +kernel
theorem d_Md_component_40 : decode b_Md_component 40 = .ok (.iload_n 2, 1) := by decide +kernel
theorem d_Md_component_41 : decode b_Md_component 41 = .ok (.iconst 1, 1) := by decide +kernel
theorem d_Md_component_42 : decode b_Md_component 42 = .ok (.iload_n 3, 1) := by decide +kernel
theorem d_Md_component_43 : decode b_Md_component 43 = .ok (.ishl, 1) := by decide +kernel
theorem d_Md_component_44 : decode b_Md_component 44 = .ok (.ior, 1) := by decide +kernel
theorem d_Md_component_45 : decode b_Md_component 45 = .ok (.istore_n 2, 1) := by decide +kernel
theorem d_Md_component_46 : decode b_Md_component 46 = .ok (.iinc 3 1, 3) := by decide +kernel
theorem d_Md_component_49 : decode b_Md_component 49 = .ok (.goto (-45), 3) := by decide +kernel
theorem d_Md_component_52 : decode b_Md_component 52 = .ok (.iload_n 2, 1) := by decide +kernel
theorem d_Md_component_53 : decode b_Md_component 53 = .ok (.ireturn, 1) := by decide +kernel
theorem d_Md_ready_0 : decode b_Md_ready 0 = .ok (.iload_n 2, 1) := by decide +kernel
theorem d_Md_ready_1 : decode b_Md_ready 1 = .ok (.istore_n 3, 1) := by decide +kernel
theorem d_Md_ready_2 : decode b_Md_ready 2 = .ok (.iconst 0, 1) := by decide +kernel
theorem d_Md_ready_3 : decode b_Md_ready 3 = .ok (.istore 4, 2) := by decide +kernel
theorem d_Md_ready_5 : decode b_Md_ready 5 = .ok (.iload 4, 2) := by decide +kernel
theorem d_Md_ready_7 : decode b_Md_ready 7 = .ok (.aload_n 0, 1) := by decide +kernel
theorem d_Md_ready_8 : decode b_Md_ready 8 = .ok (.getfield 93, 3) := by decide +kernel
theorem d_Md_ready_11 : decode b_Md_ready 11 = .ok (.if_icmp .ge 36, 3) := by decide +kernel
theorem d_Md_ready_14 : decode b_Md_ready 14 = .ok (.aload_n 0, 1) := by decide +kernel
theorem d_Md_ready_15 : decode b_Md_ready 15 = .ok (.getfield 20, 3) := by decide +kernel
theorem d_Md_ready_18 : decode b_Md_ready 18 = .ok (.bipush 30, 2) := by decide +kernel
theorem d_Md_ready_20 : decode b_Md_ready 20 = .ok (.iload_n 1, 1) := by decide +kernel
theorem d_Md_ready_21 : decode b_Md_ready 21 = .ok (.imul, 1) := by decide +kernel
theorem d_Md_ready_22 : decode b_Md_ready 22 = .ok (.iload 4, 2) := by decide +kernel
theorem d_Md_ready_24 : decode b_Md_ready 24 = .ok (.iadd, 1) := by decide +kernel
theorem d_Md_ready_25 : decode b_Md_ready 25 = .ok (.iaload, 1) := by decide +kernel
theorem d_Md_ready_26 : decode b_Md_ready 26 = .ok (.iconst 4, 1) := by decide +kernel
theorem d_Md_ready_27 : decode b_Md_ready 27 = .ok (.if_icmp .ne 12, 3) := by decide +kernel
theorem d_Md_ready_30 : decode b_Md_ready 30 = .ok (.iload_n 3, 1) := by decide +kernel
theorem d_Md_ready_31 : decode b_Md_ready 31 = .ok (.iconst 1, 1) := by decide +kernel
theorem d_Md_ready_32 : decode b_Md_ready 32 = .ok (.iload 4, 2) := by decide +kernel
theorem d_Md_ready_34 : decode b_Md_ready 34 = .ok (.ishl, 1) := by decide +kernel
theorem d_Md_ready_35 : decode b_Md_ready 35 = .ok (.ior, 1) := by decide +kernel
theorem d_Md_ready_36 : decode b_Md_ready 36 = .ok (.goto 4, 3) := by decide +kernel
theorem d_Md_ready_39 : decode b_Md_ready 39 = .ok (.iload_n 3, 1) := by decide +kernel
theorem d_Md_ready_40 : decode b_Md_ready 40 = .ok (.istore_n 3, 1) := by decide +kernel
theorem d_Md_ready_41 : decode b_Md_ready 41 = .ok (.iinc 4 1, 3) := by decide +kernel
theorem d_Md_ready_44 : decode b_Md_ready 44 = .ok (.goto (-39), 3) := by decide +kernel
theorem d_Md_ready_47 : decode b_Md_ready 47 = .ok (.iconst 0, 1) := by decide +kernel
theorem d_Md_ready_48 : decode b_Md_ready 48 = .ok (.istore 4, 2) := by decide +kernel
theorem d_Md_ready_50 : decode b_Md_ready 50 = .ok (.iload 4, 2) := by decide +kernel
theorem d_Md_ready_52 : decode b_Md_ready 52 = .ok (.aload_n 0, 1) := by decide +kernel
theorem d_Md_ready_53 : decode b_Md_ready 53 = .ok (.getfield 93, 3) := by decide +kernel
theorem d_Md_ready_56 : decode b_Md_ready 56 = .ok (.if_icmp .ge 40, 3) := by decide +kernel
theorem d_Md_ready_59 : decode b_Md_ready 59 = .ok (.iload_n 2, 1) := by decide +kernel
theorem d_Md_ready_60 : decode b_Md_ready 60 = .ok (.iload 4, 2) := by decide +kernel
theorem d_Md_ready_62 : decode b_Md_ready 62 = .ok (.ishr, 1) := by decide +kernel
theorem d_Md_ready_63 : decode b_Md_ready 63 = .ok (.iconst 1, 1) := by decide +kernel
theorem d_Md_ready_64 : decode b_Md_ready 64 = .ok (.iand, 1) := by decide +kernel
theorem d_Md_ready_65 : decode b_Md_ready 65 = .ok (.iconst 1, 1) := by decide +kernel
theorem d_Md_ready_66 : decode b_Md_ready 66 = .ok (.if_icmp .ne 24, 3) := by decide +kernel
theorem d_Md_ready_69 : decode b_Md_ready 69 = .ok (.aload_n 0, 1) := by decide +kernel
theorem d_Md_ready_70 : decode b_Md_ready 70 = .ok (.getfield 32, 3) := by decide +kernel
theorem d_Md_ready_73 : decode b_Md_ready 73 = .ok (.bipush 30, 2) := by decide +kernel
theorem d_Md_ready_75 : decode b_Md_ready 75 = .ok (.iload_n 1, 1) := by decide +kernel
theorem d_Md_ready_76 : decode b_Md_ready 76 = .ok (.imul, 1) := by decide +kernel
theorem d_Md_ready_77 : decode b_Md_ready 77 = .ok (.iload 4, 2) := by decide +kernel
theorem d_Md_ready_79 : decode b_Md_ready 79 = .ok (.iadd, 1) := by decide +kernel
theorem d_Md_ready_80 : decode b_Md_ready 80 = .ok (.iaload, 1) := by decide +kernel
theorem d_Md_ready_81 : decode b_Md_ready 81 = .ok (.iload_n 3, 1) := by decide +kernel
theorem d_Md_ready_82 : decode b_Md_ready 82 = .ok (.iconst (-1), 1) := by decide +kernel
theorem d_Md_ready_83 : decode b_Md_ready 83 = .ok (.ixor, 1) := by decide +kernel
theorem d_Md_ready_84 : decode b_Md_ready 84 = .ok (.iand, 1) := by decide +kernel
theorem d_Md_ready_85 : decode b_Md_ready 85 = .ok (.ifCond .eq 5, 3) := by decide +kernel
theorem d_Md_ready_88 : decode b_Md_ready 88 = .ok (.iconst 0, 1) := by decide +kernel
theorem d_Md_ready_89 : decode b_Md_ready 89 = .ok (.ireturn, 1) := by decide +kernel
theorem d_Md_ready_90 : decode b_Md_ready 90 = .ok (.iinc 4 1, 3) := by decide +kernel
theorem d_Md_ready_93 : decode b_Md_ready 93 = .ok (.goto (-43), 3) := by decide +kernel
theorem d_Md_ready_96 : decode b_Md_ready 96 = .ok (.iload_n 2, 1) := by decide +kernel
theorem d_Md_ready_97 : decode b_Md_ready 97 = .ok (.ifCond .eq 7, 3) := by decide +kernel
theorem d_Md_ready_100 : decode b_Md_ready 100 = .ok (.iconst 1, 1) := by decide +kernel
theorem d_Md_ready_101 : decode b_Md_ready 101 = .ok (.goto 4, 3) := by decide +kernel
theorem d_Md_ready_104 : decode b_Md_ready 104 = .ok (.iconst 0, 1) := by decide +kernel
theorem d_Md_ready_105 : decode b_Md_ready 105 = .ok (.ireturn, 1) := by decide +kernel
theorem d_Md_next_0 : decode b_Md_next 0 = .ok (.iconst (-1), 1) := by decide +kernel
theorem d_Md_next_1 : decode b_Md_next 1 = .ok (.istore_n 3, 1) := by decide +kernel
theorem d_Md_next_2 : decode b_Md_next 2 = .ok (.aload_n 0, 1) := by decide +kernel
theorem d_Md_next_3 : decode b_Md_next 3 = .ok (.getfield 93, 3) := by decide +kernel
theorem d_Md_next_6 : decode b_Md_next 6 = .ok (.iconst 1, 1) := by decide +kernel
theorem d_Md_next_7 : decode b_Md_next 7 = .ok (.isub, 1) := by decide +kernel
theorem d_Md_next_8 : decode b_Md_next 8 = .ok (.istore 4, 2) := by decide +kernel
theorem d_Md_next_10 : decode b_Md_next 10 = .ok (.iload 4, 2) := by decide +kernel
theorem d_Md_next_12 : decode b_Md_next 12 = .ok (.ifCond .lt 52, 3) := by decide +kernel
theorem d_Md_next_15 : decode b_Md_next 15 = .ok (.iload_n 2, 1) := by decide +kernel
theorem d_Md_next_16 : decode b_Md_next 16 = .ok (.iload 4, 2) := by decide +kernel
theorem d_Md_next_18 : decode b_Md_next 18 = .ok (.ishr, 1) := by decide +kernel
theorem d_Md_next_19 : decode b_Md_next 19 = .ok (.iconst 1, 1) := by decide +kernel
theorem d_Md_next_20 : decode b_Md_next 20 = .ok (.iand, 1) := by decide +kernel
theorem d_Md_next_21 : decode b_Md_next 21 = .ok (.iconst 1, 1) := by decide +kernel
theorem d_Md_next_22 : decode b_Md_next 22 = .ok (.if_icmp .ne 36, 3) := by decide +kernel
theorem d_Md_next_25 : decode b_Md_next 25 = .ok (.iload_n 3, 1) := by decide +kernel
theorem d_Md_next_26 : decode b_Md_next 26 = .ok (.ifCond .lt 29, 3) := by decide +kernel
theorem d_Md_next_29 : decode b_Md_next 29 = .ok (.aload_n 0, 1) := by decide +kernel
theorem d_Md_next_30 : decode b_Md_next 30 = .ok (.getfield 29, 3) := by decide +kernel
theorem d_Md_next_33 : decode b_Md_next 33 = .ok (.bipush 30, 2) := by decide +kernel
theorem d_Md_next_35 : decode b_Md_next 35 = .ok (.iload_n 1, 1) := by decide +kernel
theorem d_Md_next_36 : decode b_Md_next 36 = .ok (.imul, 1) := by decide +kernel
theorem d_Md_next_37 : decode b_Md_next 37 = .ok (.iload 4, 2) := by decide +kernel
theorem d_Md_next_39 : decode b_Md_next 39 = .ok (.iadd, 1) := by decide +kernel
theorem d_Md_next_40 : decode b_Md_next 40 = .ok (.iaload, 1) := by decide +kernel
theorem d_Md_next_41 : decode b_Md_next 41 = .ok (.aload_n 0, 1) := by decide +kernel
theorem d_Md_next_42 : decode b_Md_next 42 = .ok (.getfield 29, 3) := by decide +kernel
theorem d_Md_next_45 : decode b_Md_next 45 = .ok (.bipush 30, 2) := by decide +kernel
theorem d_Md_next_47 : decode b_Md_next 47 = .ok (.iload_n 1, 1) := by decide +kernel
theorem d_Md_next_48 : decode b_Md_next 48 = .ok (.imul, 1) := by decide +kernel
theorem d_Md_next_49 : decode b_Md_next 49 = .ok (.iload_n 3, 1) := by decide +kernel
theorem d_Md_next_50 : decode b_Md_next 50 = .ok (.iadd, 1) := by decide +kernel
theorem d_Md_next_51 : decode b_Md_next 51 = .ok (.iaload, 1) := by decide +kernel
theorem d_Md_next_52 : decode b_Md_next 52 = .ok (.if_icmp .gt 6, 3) := by decide +kernel
theorem d_Md_next_55 : decode b_Md_next 55 = .ok (.iload 4, 2) := by decide +kernel
theorem d_Md_next_57 : decode b_Md_next 57 = .ok (.istore_n 3, 1) := by decide +kernel
theorem d_Md_next_58 : decode b_Md_next 58 = .ok (.iinc 4 (-1), 3) := by decide +kernel
theorem d_Md_next_61 : decode b_Md_next 61 = .ok (.goto (-51), 3) := by decide +kernel
theorem d_Md_next_64 : decode b_Md_next 64 = .ok (.iload_n 3, 1) := by decide +kernel
theorem d_Md_next_65 : decode b_Md_next 65 = .ok (.ireturn, 1) := by decide +kernel
