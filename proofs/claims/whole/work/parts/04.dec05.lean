theorem d_Md_act_0 : decode b_Md_act 0 = .ok (.bipush 30, 2) := by decide +kernel
theorem d_Md_act_2 : decode b_Md_act 2 = .ok (.iload_n 1, 1) := by decide +kernel
theorem d_Md_act_3 : decode b_Md_act 3 = .ok (.imul, 1) := by decide +kernel
theorem d_Md_act_4 : decode b_Md_act 4 = .ok (.iload_n 2, 1) := by decide +kernel
theorem d_Md_act_5 : decode b_Md_act 5 = .ok (.iadd, 1) := by decide +kernel
theorem d_Md_act_6 : decode b_Md_act 6 = .ok (.istore_n 3, 1) := by decide +kernel
theorem d_Md_act_7 : decode b_Md_act 7 = .ok (.iconst 4, 1) := by decide +kernel
theorem d_Md_act_8 : decode b_Md_act 8 = .ok (.iload_n 1, 1) := by decide +kernel
theorem d_Md_act_9 : decode b_Md_act 9 = .ok (.imul, 1) := by decide +kernel
theorem d_Md_act_10 : decode b_Md_act 10 = .ok (.aload_n 0, 1) := by decide +kernel
theorem d_Md_act_11 : decode b_Md_act 11 = .ok (.getfield 23, 3) := by decide +kernel
theorem d_Md_act_14 : decode b_Md_act 14 = .ok (.iload_n 3, 1) := by decide +kernel
theorem d_Md_act_15 : decode b_Md_act 15 = .ok (.iaload, 1) := by decide +kernel
theorem d_Md_act_16 : decode b_Md_act 16 = .ok (.iconst 3, 1) := by decide +kernel
theorem d_Md_act_17 : decode b_Md_act 17 = .ok (.iand, 1) := by decide +kernel
theorem d_Md_act_18 : decode b_Md_act 18 = .ok (.iadd, 1) := by decide +kernel
theorem d_Md_act_19 : decode b_Md_act 19 = .ok (.istore 4, 2) := by decide +kernel
theorem d_Md_act_21 : decode b_Md_act 21 = .ok (.aload_n 0, 1) := by decide +kernel
theorem d_Md_act_22 : decode b_Md_act 22 = .ok (.getfield 44, 3) := by decide +kernel
theorem d_Md_act_25 : decode b_Md_act 25 = .ok (.iload_n 3, 1) := by decide +kernel
theorem d_Md_act_26 : decode b_Md_act 26 = .ok (.aload_n 0, 1) := by decide +kernel
theorem d_Md_act_27 : decode b_Md_act 27 = .ok (.getfield 23, 3) := by decide +kernel
theorem d_Md_act_30 : decode b_Md_act 30 = .ok (.iload_n 3, 1) := by decide +kernel
theorem d_Md_act_31 : decode b_Md_act 31 = .ok (.iaload, 1) := by decide +kernel
theorem d_Md_act_32 : decode b_Md_act 32 = .ok (.bipush 8, 2) := by decide +kernel
theorem d_Md_act_34 : decode b_Md_act 34 = .ok (.if_icmp .ne 7, 3) := by decide +kernel
theorem d_Md_act_37 : decode b_Md_act 37 = .ok (.iconst 0, 1) := by decide +kernel
theorem d_Md_act_38 : decode b_Md_act 38 = .ok (.goto 10, 3) := by decide +kernel
theorem d_Md_act_41 : decode b_Md_act 41 = .ok (.aload_n 0, 1) := by decide +kernel
theorem d_Md_act_42 : decode b_Md_act 42 = .ok (.getfield 13, 3) := by decide +kernel
theorem d_Md_act_45 : decode b_Md_act 45 = .ok (.iload 4, 2) := by decide +kernel
theorem d_Md_act_47 : decode b_Md_act 47 = .ok (.iaload, 1) := by decide +kernel
theorem d_Md_act_48 : decode b_Md_act 48 = .ok (.iastore, 1) := by decide +kernel
theorem d_Md_act_49 : decode b_Md_act 49 = .ok (.aload_n 0, 1) := by decide +kernel
theorem d_Md_act_50 : decode b_Md_act 50 = .ok (.getfield 23, 3) := by decide +kernel
theorem d_Md_act_53 : decode b_Md_act 53 = .ok (.iload_n 3, 1) := by decide +kernel
theorem d_Md_act_54 : decode b_Md_act 54 = .ok (.iaload, 1) := by decide +kernel
theorem d_Md_act_55 : decode b_Md_act 55 = .ok (.iconst 4, 1) := by decide +kernel
theorem d_Md_act_56 : decode b_Md_act 56 = .ok (.if_icmp .lt 27, 3) := by decide +kernel
theorem d_Md_act_59 : decode b_Md_act 59 = .ok (.aload_n 0, 1) := by decide +kernel
theorem d_Md_act_60 : decode b_Md_act 60 = .ok (.getfield 23, 3) := by decide +kernel
theorem d_Md_act_63 : decode b_Md_act 63 = .ok (.iload_n 3, 1) := by decide +kernel
theorem d_Md_act_64 : decode b_Md_act 64 = .ok (.iaload, 1) := by decide +kernel
theorem d_Md_act_65 : decode b_Md_act 65 = .ok (.bipush 8, 2) := by decide +kernel
theorem d_Md_act_67 : decode b_Md_act 67 = .ok (.if_icmp .ge 16, 3) := by decide +kernel
theorem d_Md_act_70 : decode b_Md_act 70 = .ok (.aload_n 0, 1) := by decide +kernel
theorem d_Md_act_71 : decode b_Md_act 71 = .ok (.getfield 13, 3) := by decide +kernel
theorem d_Md_act_74 : decode b_Md_act 74 = .ok (.iload 4, 2) := by decide +kernel
theorem d_Md_act_76 : decode b_Md_act 76 = .ok (.aload_n 0, 1) := by decide +kernel
theorem d_Md_act_77 : decode b_Md_act 77 = .ok (.getfield 26, 3) := by decide +kernel
theorem d_Md_act_80 : decode b_Md_act 80 = .ok (.iload_n 3, 1) := by decide +kernel
theorem d_Md_act_81 : decode b_Md_act 81 = .ok (.iaload, 1) := by decide +kernel
theorem d_Md_act_82 : decode b_Md_act 82 = .ok (.iastore, 1) := by decide +kernel
theorem d_Md_act_83 : decode b_Md_act 83 = .ok (.aload_n 0, 1) := by decide +kernel
theorem d_Md_act_84 : decode b_Md_act 84 = .ok (.getfield 20, 3) := by decide +kernel
theorem d_Md_act_87 : decode b_Md_act 87 = .ok (.iload_n 3, 1) := by decide +kernel
theorem d_Md_act_88 : decode b_Md_act 88 = .ok (.iconst 4, 1) := by decide +kernel
theorem d_Md_act_89 : decode b_Md_act 89 = .ok (.iastore, 1) := by decide +kernel
theorem d_Md_act_90 : decode b_Md_act 90 = .ok (.aload_n 0, 1) := by decide +kernel
theorem d_Md_act_91 : decode b_Md_act 91 = .ok (.getfield 41, 3) := by decide +kernel
theorem d_Md_act_94 : decode b_Md_act 94 = .ok (.iload_n 3, 1) := by decide +kernel
theorem d_Md_act_95 : decode b_Md_act 95 = .ok (.aload_n 0, 1) := by decide +kernel
theorem d_Md_act_96 : decode b_Md_act 96 = .ok (.getfield 17, 3) := by decide +kernel
theorem d_Md_act_99 : decode b_Md_act 99 = .ok (.iload_n 1, 1) := by decide +kernel
theorem d_Md_act_100 : decode b_Md_act 100 = .ok (.iaload, 1) := by decide +kernel
theorem d_Md_act_101 : decode b_Md_act 101 = .ok (.iastore, 1) := by decide +kernel
theorem d_Md_act_102 : decode b_Md_act 102 = .ok (.aload_n 0, 1) := by decide +kernel
theorem d_Md_act_103 : decode b_Md_act 103 = .ok (.getfield 17, 3) := by decide +kernel
theorem d_Md_act_106 : decode b_Md_act 106 = .ok (.iload_n 1, 1) := by decide +kernel
theorem d_Md_act_107 : decode b_Md_act 107 = .ok (.dup2, 1) := by decide +kernel
theorem d_Md_act_108 : decode b_Md_act 108 = .ok (.iaload, 1) := by decide +kernel
theorem d_Md_act_109 : decode b_Md_act 109 = .ok (.iconst 1, 1) := by decide +kernel
theorem d_Md_act_110 : decode b_Md_act 110 = .ok (.iadd, 1) := by decide +kernel
theorem d_Md_act_111 : decode b_Md_act 111 = .ok (.iastore, 1) := by decide +kernel
theorem d_Md_act_112 : decode b_Md_act 112 = .ok (.return_, 1) := by decide +kernel
theorem d_Md_execute_0 : decode b_Md_execute 0 = .ok (.iload_n 1, 1) := by decide +kernel
theorem d_Md_execute_1 : decode b_Md_execute 1 = .ok (.ifCond .lt 20, 3) := by decide +kernel
theorem d_Md_execute_4 : decode b_Md_execute 4 = .ok (.iload_n 1, 1) := by decide +kernel
theorem d_Md_execute_5 : decode b_Md_execute 5 = .ok (.aload_n 0, 1) := by decide +kernel
theorem d_Md_execute_6 : decode b_Md_execute 6 = .ok (.getfield 86, 3) := by decide +kernel
theorem d_Md_execute_9 : decode b_Md_execute 9 = .ok (.if_icmp .ge 12, 3) := by decide +kernel
theorem d_Md_execute_12 : decode b_Md_execute 12 = .ok (.aload_n 0, 1) := by decide +kernel
theorem d_Md_execute_13 : decode b_Md_execute 13 = .ok (.getfield 7, 3) := by decide +kernel
theorem d_Md_execute_16 : decode b_Md_execute 16 = .ok (.iload_n 1, 1) := by decide +kernel
theorem d_Md_execute_17 : decode b_Md_execute 17 = .ok (.baload, 1) := by decide +kernel
theorem d_Md_execute_18 : decode b_Md_execute 18 = .ok (.ifCond .eq 5, 3) := by decide +kernel
theorem d_Md_execute_21 : decode b_Md_execute 21 = .ok (.iconst (-1), 1) := by decide +kernel
theorem d_Md_execute_22 : decode b_Md_execute 22 = .ok (.ireturn, 1) := by decide +kernel
theorem d_Md_execute_23 : decode b_Md_execute 23 = .ok (.aload_n 0, 1) := by decide +kernel
theorem d_Md_execute_24 : decode b_Md_execute 24 = .ok (.getfield 17, 3) := by decide +kernel
theorem d_Md_execute_27 : decode b_Md_execute 27 = .ok (.iload_n 1, 1) := by decide +kernel
theorem d_Md_execute_28 : decode b_Md_execute 28 = .ok (.iaload, 1) := by decide +kernel
theorem d_Md_execute_29 : decode b_Md_execute 29 = .ok (.istore_n 2, 1) := by decide +kernel
theorem d_Md_execute_30 : decode b_Md_execute 30 = .ok (.iconst 1, 1) := by decide +kernel
theorem d_Md_execute_31 : decode b_Md_execute 31 = .ok (.istore_n 3, 1) := by decide +kernel
theorem d_Md_execute_32 : decode b_Md_execute 32 = .ok (.iconst 0, 1) := by decide +kernel
theorem d_Md_execute_33 : decode b_Md_execute 33 = .ok (.istore 4, 2) := by decide +kernel
theorem d_Md_execute_35 : decode b_Md_execute 35 = .ok (.iload 4, 2) := by decide +kernel
theorem d_Md_execute_37 : decode b_Md_execute 37 = .ok (.bipush 31, 2) := by decide +kernel
theorem d_Md_execute_39 : decode b_Md_execute 39 = .ok (.if_icmp .ge 126, 3) := by decide +kernel
theorem d_Md_execute_42 : decode b_Md_execute 42 = .ok (.iload_n 3, 1) := by decide +kernel
theorem d_Md_execute_43 : decode b_Md_execute 43 = .ok (.ifCond .eq 122, 3) := by decide +kernel
theorem d_Md_execute_46 : decode b_Md_execute 46 = .ok (.aload_n 0, 1) := by decide +kernel
theorem d_Md_execute_47 : decode b_Md_execute 47 = .ok (.iload_n 1, 1) := by decide +kernel
theorem d_Md_execute_48 : decode b_Md_execute 48 = .ok (.invokevirtual 181, 3) := by decide +kernel
theorem d_Md_execute_51 : decode b_Md_execute 51 = .ok (.iconst 0, 1) := by decide +kernel
theorem d_Md_execute_52 : decode b_Md_execute 52 = .ok (.istore 5, 2) := by decide +kernel
theorem d_Md_execute_54 : decode b_Md_execute 54 = .ok (.aload_n 0, 1) := by decide +kernel
theorem d_Md_execute_55 : decode b_Md_execute 55 = .ok (.getfield 93, 3) := by decide +kernel
theorem d_Md_execute_58 : decode b_Md_execute 58 = .ok (.iconst 1, 1) := by decide +kernel
theorem d_Md_execute_59 : decode b_Md_execute 59 = .ok (.isub, 1) := by decide +kernel
theorem d_Md_execute_60 : decode b_Md_execute 60 = .ok (.istore 6, 2) := by decide +kernel
theorem d_Md_execute_62 : decode b_Md_execute 62 = .ok (.iload 6, 2) := by decide +kernel
theorem d_Md_execute_64 : decode b_Md_execute 64 = .ok (.ifCond .lt 36, 3) := by decide +kernel
theorem d_Md_execute_67 : decode b_Md_execute 67 = .ok (.aload_n 0, 1) := by decide +kernel
theorem d_Md_execute_68 : decode b_Md_execute 68 = .ok (.iload 6, 2) := by decide +kernel
theorem d_Md_execute_70 : decode b_Md_execute 70 = .ok (.invokevirtual 184, 3) := by decide +kernel
theorem d_Md_execute_73 : decode b_Md_execute 73 = .ok (.istore 7, 2) := by decide +kernel
theorem d_Md_execute_75 : decode b_Md_execute 75 = .ok (.aload_n 0, 1) := by decide +kernel
theorem d_Md_execute_76 : decode b_Md_execute 76 = .ok (.iload_n 1, 1) := by decide +kernel
theorem d_Md_execute_77 : decode b_Md_execute 77 = .ok (.iload 7, 2) := by decide +kernel
theorem d_Md_execute_79 : decode b_Md_execute 79 = .ok (.invokevirtual 188, 3) := by decide +kernel
theorem d_Md_execute_82 : decode b_Md_execute 82 = .ok (.ifCond .eq 8, 3) := by decide +kernel
theorem d_Md_execute_85 : decode b_Md_execute 85 = .ok (.iload 7, 2) := by decide +kernel
theorem d_Md_execute_87 : decode b_Md_execute 87 = .ok (.goto 5, 3) := by decide +kernel
theorem d_Md_execute_90 : decode b_Md_execute 90 = .ok (.iload 5, 2) := by decide +kernel
theorem d_Md_execute_92 : decode b_Md_execute 92 = .ok (.istore 5, 2) := by decide +kernel
theorem d_Md_execute_94 : decode b_Md_execute 94 = .ok (.iinc 6 (-1), 3) := by decide +kernel
theorem d_Md_execute_97 : decode b_Md_execute 97 = .ok (.goto (-35), 3) := by decide +kernel
theorem d_Md_execute_100 : decode b_Md_execute 100 = .ok (.iload 5, 2) := by decide +kernel
theorem d_Md_execute_102 : decode b_Md_execute 102 = .ok (.ifCond .eq 7, 3) := by decide +kernel
theorem d_Md_execute_105 : decode b_Md_execute 105 = .ok (.iconst 1, 1) := by decide +kernel
theorem d_Md_execute_106 : decode b_Md_execute 106 = .ok (.goto 4, 3) := by decide +kernel
theorem d_Md_execute_109 : decode b_Md_execute 109 = .ok (.iconst 0, 1) := by decide +kernel
theorem d_Md_execute_110 : decode b_Md_execute 110 = .ok (.istore_n 3, 1) := by decide +kernel
theorem d_Md_execute_111 : decode b_Md_execute 111 = .ok (.iconst 0, 1) := by decide +kernel
theorem d_Md_execute_112 : decode b_Md_execute 112 = .ok (.istore 6, 2) := by decide +kernel
theorem d_Md_execute_114 : decode b_Md_execute 114 = .ok (.iload 6, 2) := by decide +kernel
theorem d_Md_execute_116 : decode b_Md_execute 116 = .ok (.bipush 30, 2) := by decide +kernel
theorem d_Md_execute_118 : decode b_Md_execute 118 = .ok (.if_icmp .ge 41, 3) := by decide +kernel
theorem d_Md_execute_121 : decode b_Md_execute 121 = .ok (.iload 5, 2) := by decide +kernel
theorem d_Md_execute_123 : decode b_Md_execute 123 = .ok (.ifCond .eq 36, 3) := by decide +kernel
theorem d_Md_execute_126 : decode b_Md_execute 126 = .ok (.aload_n 0, 1) := by decide +kernel
theorem d_Md_execute_127 : decode b_Md_execute 127 = .ok (.iload_n 1, 1) := by decide +kernel
theorem d_Md_execute_128 : decode b_Md_execute 128 = .ok (.iload 5, 2) := by decide +kernel
theorem d_Md_execute_130 : decode b_Md_execute 130 = .ok (.invokevirtual 191, 3) := by decide +kernel
theorem d_Md_execute_133 : decode b_Md_execute 133 = .ok (.istore 7, 2) := by decide +kernel
theorem d_Md_execute_135 : decode b_Md_execute 135 = .ok (.aload_n 0, 1) := by decide +kernel
theorem d_Md_execute_136 : decode b_Md_execute 136 = .ok (.iload_n 1, 1) := by decide +kernel
theorem d_Md_execute_137 : decode b_Md_execute 137 = .ok (.iload 7, 2) := by decide +kernel
theorem d_Md_execute_139 : decode b_Md_execute 139 = .ok (.invokevirtual 194, 3) := by decide +kernel
theorem d_Md_execute_142 : decode b_Md_execute 142 = .ok (.iload 5, 2) := by decide +kernel
theorem d_Md_execute_144 : decode b_Md_execute 144 = .ok (.iconst 1, 1) := by decide +kernel
theorem d_Md_execute_145 : decode b_Md_execute 145 = .ok (.iload 7, 2) := by decide +kernel
theorem d_Md_execute_147 : decode b_Md_execute 147 = .ok (.ishl, 1) := by decide +kernel
theorem d_Md_execute_148 : decode b_Md_execute 148 = .ok (.iconst (-1), 1) := by decide +kernel
theorem d_Md_execute_149 : decode b_Md_execute 149 = .ok (.ixor, 1) := by decide +kernel
theorem d_Md_execute_150 : decode b_Md_execute 150 = .ok (.iand, 1) := by decide +kernel
theorem d_Md_execute_151 : decode b_Md_execute 151 = .ok (.istore 5, 2) := by decide +kernel
theorem d_Md_execute_153 : decode b_Md_execute 153 = .ok (.iinc 6 1, 3) := by decide +kernel
theorem d_Md_execute_156 : decode b_Md_execute 156 = .ok (.goto (-42), 3) := by decide +kernel
theorem d_Md_execute_159 : decode b_Md_execute 159 = .ok (.iinc 4 1, 3) := by decide +kernel
theorem d_Md_execute_162 : decode b_Md_execute 162 = .ok (.goto (-127), 3) := by decide +kernel
theorem d_Md_execute_165 : decode b_Md_execute 165 = .ok (.aload_n 0, 1) := by decide +kernel
theorem d_Md_execute_166 : decode b_Md_execute 166 = .ok (.getfield 17, 3) := by decide +kernel
theorem d_Md_execute_169 : decode b_Md_execute 169 = .ok (.iload_n 1, 1) := by decide +kernel
theorem d_Md_execute_170 : decode b_Md_execute 170 = .ok (.iaload, 1) := by decide +kernel
theorem d_Md_execute_171 : decode b_Md_execute 171 = .ok (.iload_n 2, 1) := by decide +kernel
theorem d_Md_execute_172 : decode b_Md_execute 172 = .ok (.isub, 1) := by decide +kernel
theorem d_Md_execute_173 : decode b_Md_execute 173 = .ok (.ireturn, 1) := by decide +kernel
theorem d_Md_waiting_0 : decode b_Md_waiting 0 = .ok (.aload_n 0, 1) := by decide +kernel
theorem d_Md_waiting_1 : decode b_Md_waiting 1 = .ok (.getfield 108, 3) := by decide +kernel
theorem d_Md_waiting_4 : decode b_Md_waiting 4 = .ok (.ireturn, 1) := by decide +kernel
theorem d_Md_message_0 : decode b_Md_message 0 = .ok (.iload_n 1, 1) := by decide +kernel
theorem d_Md_message_1 : decode b_Md_message 1 = .ok (.ifCond .lt 11, 3) := by decide +kernel
theorem d_Md_message_4 : decode b_Md_message 4 = .ok (.iload_n 1, 1) := by decide +kernel
theorem d_Md_message_5 : decode b_Md_message 5 = .ok (.aload_n 0, 1) := by decide +kernel
theorem d_Md_message_6 : decode b_Md_message 6 = .ok (.getfield 108, 3) := by decide +kernel
theorem d_Md_message_9 : decode b_Md_message 9 = .ok (.if_icmp .lt 5, 3) := by decide +kernel
theorem d_Md_message_12 : decode b_Md_message 12 = .ok (.iconst (-1), 1) := by decide +kernel
theorem d_Md_message_13 : decode b_Md_message 13 = .ok (.ireturn, 1) := by decide +kernel
theorem d_Md_message_14 : decode b_Md_message 14 = .ok (.bipush 11, 2) := by decide +kernel
theorem d_Md_message_16 : decode b_Md_message 16 = .ok (.iload_n 1, 1) := by decide +kernel
theorem d_Md_message_17 : decode b_Md_message 17 = .ok (.imul, 1) := by decide +kernel
theorem d_Md_message_18 : decode b_Md_message 18 = .ok (.istore_n 2, 1) := by decide +kernel
theorem d_Md_message_19 : decode b_Md_message 19 = .ok (.aload_n 0, 1) := by decide +kernel
theorem d_Md_message_20 : decode b_Md_message 20 = .ok (.getfield 80, 3) := by decide +kernel
theorem d_Md_message_23 : decode b_Md_message 23 = .ok (.iload_n 2, 1) := by decide +kernel
theorem d_Md_message_24 : decode b_Md_message 24 = .ok (.iaload, 1) := by decide +kernel
theorem d_Md_message_25 : decode b_Md_message 25 = .ok (.bipush 8, 2) := by decide +kernel
theorem d_Md_message_27 : decode b_Md_message 27 = .ok (.aload_n 0, 1) := by decide +kernel
theorem d_Md_message_28 : decode b_Md_message 28 = .ok (.getfield 80, 3) := by decide +kernel
theorem d_Md_message_31 : decode b_Md_message 31 = .ok (.iload_n 2, 1) := by decide +kernel
theorem d_Md_message_32 : decode b_Md_message 32 = .ok (.iconst 1, 1) := by decide +kernel
theorem d_Md_message_33 : decode b_Md_message 33 = .ok (.iadd, 1) := by decide +kernel
theorem d_Md_message_34 : decode b_Md_message 34 = .ok (.iaload, 1) := by decide +kernel
theorem d_Md_message_35 : decode b_Md_message 35 = .ok (.imul, 1) := by decide +kernel
theorem d_Md_message_36 : decode b_Md_message 36 = .ok (.iadd, 1) := by decide +kernel
theorem d_Md_message_37 : decode b_Md_message 37 = .ok (.bipush 64, 2) := by decide +kernel
theorem d_Md_message_39 : decode b_Md_message 39 = .ok (.aload_n 0, 1) := by decide +kernel
theorem d_Md_message_40 : decode b_Md_message 40 = .ok (.getfield 80, 3) := by decide +kernel
theorem d_Md_message_43 : decode b_Md_message 43 = .ok (.iload_n 2, 1) := by decide +kernel
theorem d_Md_message_44 : decode b_Md_message 44 = .ok (.iconst 2, 1) := by decide +kernel
theorem d_Md_message_45 : decode b_Md_message 45 = .ok (.iadd, 1) := by decide +kernel
theorem d_Md_message_46 : decode b_Md_message 46 = .ok (.iaload, 1) := by decide +kernel
theorem d_Md_message_47 : decode b_Md_message 47 = .ok (.imul, 1) := by decide +kernel
theorem d_Md_message_48 : decode b_Md_message 48 = .ok (.iadd, 1) := by decide +kernel
theorem d_Md_message_49 : decode b_Md_message 49 = .ok (.sipush 512, 3) := by decide +kernel
theorem d_Md_message_52 : decode b_Md_message 52 = .ok (.aload_n 0, 1) := by decide +kernel
theorem d_Md_message_53 : decode b_Md_message 53 = .ok (.getfield 80, 3) := by decide +kernel
theorem d_Md_message_56 : decode b_Md_message 56 = .ok (.iload_n 2, 1) := by decide +kernel
theorem d_Md_message_57 : decode b_Md_message 57 = .ok (.iconst 3, 1) := by decide +kernel
theorem d_Md_message_58 : decode b_Md_message 58 = .ok (.iadd, 1) := by decide +kernel
theorem d_Md_message_59 : decode b_Md_message 59 = .ok (.iaload, 1) := by decide +kernel
theorem d_Md_message_60 : decode b_Md_message 60 = .ok (.imul, 1) := by decide +kernel
theorem d_Md_message_61 : decode b_Md_message 61 = .ok (.iadd, 1) := by decide +kernel
theorem d_Md_message_62 : decode b_Md_message 62 = .ok (.ireturn, 1) := by decide +kernel
theorem d_Md_lost_0 : decode b_Md_lost 0 = .ok (.aload_n 0, 1) := by decide +kernel
theorem d_Md_lost_1 : decode b_Md_lost 1 = .ok (.getfield 111, 3) := by decide +kernel
theorem d_Md_lost_4 : decode b_Md_lost 4 = .ok (.ireturn, 1) := by decide +kernel
theorem d_Md_named_0 : decode b_Md_named 0 = .ok (.aload_n 0, 1) := by decide +kernel
theorem d_Md_named_1 : decode b_Md_named 1 = .ok (.iload_n 1, 1) := by decide +kernel
theorem d_Md_named_2 : decode b_Md_named 2 = .ok (.iload_n 2, 1) := by decide +kernel
theorem d_Md_named_3 : decode b_Md_named 3 = .ok (.invokevirtual 178, 3) := by decide +kernel
theorem d_Md_named_6 : decode b_Md_named 6 = .ok (.ifCond .eq 21, 3) := by decide +kernel
theorem d_Md_named_9 : decode b_Md_named 9 = .ok (.aload_n 0, 1) := by decide +kernel
theorem d_Md_named_10 : decode b_Md_named 10 = .ok (.getfield 20, 3) := by decide +kernel
theorem d_Md_named_13 : decode b_Md_named 13 = .ok (.bipush 30, 2) := by decide +kernel
theorem d_Md_named_15 : decode b_Md_named 15 = .ok (.iload_n 1, 1) := by decide +kernel
theorem d_Md_named_16 : decode b_Md_named 16 = .ok (.imul, 1) := by decide +kernel
theorem d_Md_named_17 : decode b_Md_named 17 = .ok (.iload_n 2, 1) := by decide +kernel
theorem d_Md_named_18 : decode b_Md_named 18 = .ok (.iadd, 1) := by decide +kernel
theorem d_Md_named_19 : decode b_Md_named 19 = .ok (.iaload, 1) := by decide +kernel
theorem d_Md_named_20 : decode b_Md_named 20 = .ok (.ifCond .eq 7, 3) := by decide +kernel
theorem d_Md_named_23 : decode b_Md_named 23 = .ok (.iconst 1, 1) := by decide +kernel
theorem d_Md_named_24 : decode b_Md_named 24 = .ok (.goto 4, 3) := by decide +kernel
theorem d_Md_named_27 : decode b_Md_named 27 = .ok (.iconst 0, 1) := by decide +kernel
theorem d_Md_named_28 : decode b_Md_named 28 = .ok (.ireturn, 1) := by decide +kernel
theorem d_Md_state_0 : decode b_Md_state 0 = .ok (.aload_n 0, 1) := by decide +kernel
theorem d_Md_state_1 : decode b_Md_state 1 = .ok (.iload_n 1, 1) := by decide +kernel
theorem d_Md_state_2 : decode b_Md_state 2 = .ok (.iload_n 2, 1) := by decide +kernel
theorem d_Md_state_3 : decode b_Md_state 3 = .ok (.invokevirtual 178, 3) := by decide +kernel
theorem d_Md_state_6 : decode b_Md_state 6 = .ok (.ifCond .eq 17, 3) := by decide +kernel
theorem d_Md_state_9 : decode b_Md_state 9 = .ok (.aload_n 0, 1) := by decide +kernel
theorem d_Md_state_10 : decode b_Md_state 10 = .ok (.getfield 20, 3) := by decide +kernel
theorem d_Md_state_13 : decode b_Md_state 13 = .ok (.bipush 30, 2) := by decide +kernel
theorem d_Md_state_15 : decode b_Md_state 15 = .ok (.iload_n 1, 1) := by decide +kernel
theorem d_Md_state_16 : decode b_Md_state 16 = .ok (.imul, 1) := by decide +kernel
theorem d_Md_state_17 : decode b_Md_state 17 = .ok (.iload_n 2, 1) := by decide +kernel
theorem d_Md_state_18 : decode b_Md_state 18 = .ok (.iadd, 1) := by decide +kernel
theorem d_Md_state_19 : decode b_Md_state 19 = .ok (.iaload, 1) := by decide +kernel
theorem d_Md_state_20 : decode b_Md_state 20 = .ok (.goto 4, 3) := by decide +kernel
theorem d_Md_state_23 : decode b_Md_state 23 = .ok (.iconst (-1), 1) := by decide +kernel
theorem d_Md_state_24 : decode b_Md_state 24 = .ok (.ireturn, 1) := by decide +kernel
theorem d_Md_command_0 : decode b_Md_command 0 = .ok (.aload_n 0, 1) := by decide +kernel
theorem d_Md_command_1 : decode b_Md_command 1 = .ok (.iload_n 1, 1) := by decide +kernel
theorem d_Md_command_2 : decode b_Md_command 2 = .ok (.iload_n 2, 1) := by decide +kernel
theorem d_Md_command_3 : decode b_Md_command 3 = .ok (.invokevirtual 197, 3) := by decide +kernel
theorem d_Md_command_6 : decode b_Md_command 6 = .ok (.ifCond .eq 17, 3) := by decide +kernel
theorem d_Md_command_9 : decode b_Md_command 9 = .ok (.aload_n 0, 1) := by decide +kernel
theorem d_Md_command_10 : decode b_Md_command 10 = .ok (.getfield 23, 3) := by decide +kernel
theorem d_Md_command_13 : decode b_Md_command 13 = .ok (.bipush 30, 2) := by decide +kernel
theorem d_Md_command_15 : decode b_Md_command 15 = .ok (.iload_n 1, 1) := by decide +kernel
theorem d_Md_command_16 : decode b_Md_command 16 = .ok (.imul, 1) := by decide +kernel
theorem d_Md_command_17 : decode b_Md_command 17 = .ok (.iload_n 2, 1) := by decide +kernel
theorem d_Md_command_18 : decode b_Md_command 18 = .ok (.iadd, 1) := by decide +kernel
theorem d_Md_command_19 : decode b_Md_command 19 = .ok (.iaload, 1) := by decide +kernel
theorem d_Md_command_20 : decode b_Md_command 20 = .ok (.goto 4, 3) := by decide +kernel
theorem d_Md_command_23 : decode b_Md_command 23 = .ok (.iconst (-1), 1) := by decide +kernel
theorem d_Md_command_24 : decode b_Md_command 24 = .ok (.ireturn, 1) := by decide +kernel
theorem d_Md_seq_0 : decode b_Md_seq 0 = .ok (.aload_n 0, 1) := by decide +kernel
theorem d_Md_seq_1 : decode b_Md_seq 1 = .ok (.iload_n 1, 1) := by decide +kernel
theorem d_Md_seq_2 : decode b_Md_seq 2 = .ok (.iload_n 2, 1) := by decide +kernel
theorem d_Md_seq_3 : decode b_Md_seq 3 = .ok (.invokevirtual 197, 3) := by decide +kernel
theorem d_Md_seq_6 : decode b_Md_seq 6 = .ok (.ifCond .eq 17, 3) := by decide +kernel
theorem d_Md_seq_9 : decode b_Md_seq 9 = .ok (.aload_n 0, 1) := by decide +kernel
theorem d_Md_seq_10 : decode b_Md_seq 10 = .ok (.getfield 29, 3) := by decide +kernel
theorem d_Md_seq_13 : decode b_Md_seq 13 = .ok (.bipush 30, 2) := by decide +kernel
theorem d_Md_seq_15 : decode b_Md_seq 15 = .ok (.iload_n 1, 1) := by decide +kernel
theorem d_Md_seq_16 : decode b_Md_seq 16 = .ok (.imul, 1) := by decide +kernel
theorem d_Md_seq_17 : decode b_Md_seq 17 = .ok (.iload_n 2, 1) := by decide +kernel
theorem d_Md_seq_18 : decode b_Md_seq 18 = .ok (.iadd, 1) := by decide +kernel
theorem d_Md_seq_19 : decode b_Md_seq 19 = .ok (.iaload, 1) := by decide +kernel
theorem d_Md_seq_20 : decode b_Md_seq 20 = .ok (.goto 4, 3) := by decide +kernel
theorem d_Md_seq_23 : decode b_Md_seq 23 = .ok (.iconst (-1), 1) := by decide +kernel
theorem d_Md_seq_24 : decode b_Md_seq 24 = .ok (.ireturn, 1) := by decide +kernel
theorem d_Md_deps_0 : decode b_Md_deps 0 = .ok (.aload_n 0, 1) := by decide +kernel
theorem d_Md_deps_1 : decode b_Md_deps 1 = .ok (.iload_n 1, 1) := by decide +kernel
theorem d_Md_deps_2 : decode b_Md_deps 2 = .ok (.iload_n 2, 1) := by decide +kernel
theorem d_Md_deps_3 : decode b_Md_deps 3 = .ok (.invokevirtual 197, 3) := by decide +kernel
theorem d_Md_deps_6 : decode b_Md_deps 6 = .ok (.ifCond .eq 17, 3) := by decide +kernel
theorem d_Md_deps_9 : decode b_Md_deps 9 = .ok (.aload_n 0, 1) := by decide +kernel
theorem d_Md_deps_10 : decode b_Md_deps 10 = .ok (.getfield 32, 3) := by decide +kernel
theorem d_Md_deps_13 : decode b_Md_deps 13 = .ok (.bipush 30, 2) := by decide +kernel
theorem d_Md_deps_15 : decode b_Md_deps 15 = .ok (.iload_n 1, 1) := by decide +kernel
theorem d_Md_deps_16 : decode b_Md_deps 16 = .ok (.imul, 1) := by decide +kernel
theorem d_Md_deps_17 : decode b_Md_deps 17 = .ok (.iload_n 2, 1) := by decide +kernel
theorem d_Md_deps_18 : decode b_Md_deps 18 = .ok (.iadd, 1) := by decide +kernel
theorem d_Md_deps_19 : decode b_Md_deps 19 = .ok (.iaload, 1) := by decide +kernel
theorem d_Md_deps_20 : decode b_Md_deps 20 = .ok (.goto 4, 3) := by decide +kernel
theorem d_Md_deps_23 : decode b_Md_deps 23 = .ok (.iconst (-1), 1) := by decide +kernel
theorem d_Md_deps_24 : decode b_Md_deps 24 = .ok (.ireturn, 1) := by decide +kernel
theorem d_Md_promised_0 : decode b_Md_promised 0 = .ok (.aload_n 0, 1) := by decide +kernel
theorem d_Md_promised_1 : decode b_Md_promised 1 = .ok (.iload_n 1, 1) := by decide +kernel
theorem d_Md_promised_2 : decode b_Md_promised 2 = .ok (.iload_n 2, 1) := by decide +kernel
theorem d_Md_promised_3 : decode b_Md_promised 3 = .ok (.invokevirtual 178, 3) := by decide +kernel
theorem d_Md_promised_6 : decode b_Md_promised 6 = .ok (.ifCond .eq 17, 3) := by decide +kernel
theorem d_Md_promised_9 : decode b_Md_promised 9 = .ok (.aload_n 0, 1) := by decide +kernel
theorem d_Md_promised_10 : decode b_Md_promised 10 = .ok (.getfield 35, 3) := by decide +kernel
theorem d_Md_promised_13 : decode b_Md_promised 13 = .ok (.bipush 30, 2) := by decide +kernel
theorem d_Md_promised_15 : decode b_Md_promised 15 = .ok (.iload_n 1, 1) := by decide +kernel
theorem d_Md_promised_16 : decode b_Md_promised 16 = .ok (.imul, 1) := by decide +kernel
theorem d_Md_promised_17 : decode b_Md_promised 17 = .ok (.iload_n 2, 1) := by decide +kernel
theorem d_Md_promised_18 : decode b_Md_promised 18 = .ok (.iadd, 1) := by decide +kernel
theorem d_Md_promised_19 : decode b_Md_promised 19 = .ok (.iaload, 1) := by decide +kernel
theorem d_Md_promised_20 : decode b_Md_promised 20 = .ok (.goto 4, 3) := by decide +kernel
theorem d_Md_promised_23 : decode b_Md_promised 23 = .ok (.iconst (-1), 1) := by decide +kernel
theorem d_Md_promised_24 : decode b_Md_promised 24 = .ok (.ireturn, 1) := by decide +kernel
theorem d_Md_over_0 : decode b_Md_over 0 = .ok (.aload_n 0, 1) := by decide +kernel
theorem d_Md_over_1 : decode b_Md_over 1 = .ok (.iload_n 1, 1) := by decide +kernel
theorem d_Md_over_2 : decode b_Md_over 2 = .ok (.iload_n 2, 1) := by decide +kernel
theorem d_Md_over_3 : decode b_Md_over 3 = .ok (.invokevirtual 178, 3) := by decide +kernel
theorem d_Md_over_6 : decode b_Md_over 6 = .ok (.ifCond .eq 22, 3) := by decide +kernel
theorem d_Md_over_9 : decode b_Md_over 9 = .ok (.aload_n 0, 1) := by decide +kernel
theorem d_Md_over_10 : decode b_Md_over 10 = .ok (.getfield 20, 3) := by decide +kernel
theorem d_Md_over_13 : decode b_Md_over 13 = .ok (.bipush 30, 2) := by decide +kernel
theorem d_Md_over_15 : decode b_Md_over 15 = .ok (.iload_n 1, 1) := by decide +kernel
theorem d_Md_over_16 : decode b_Md_over 16 = .ok (.imul, 1) := by decide +kernel
theorem d_Md_over_17 : decode b_Md_over 17 = .ok (.iload_n 2, 1) := by decide +kernel
theorem d_Md_over_18 : decode b_Md_over 18 = .ok (.iadd, 1) := by decide +kernel
theorem d_Md_over_19 : decode b_Md_over 19 = .ok (.iaload, 1) := by decide +kernel
theorem d_Md_over_20 : decode b_Md_over 20 = .ok (.iconst 4, 1) := by decide +kernel
theorem d_Md_over_21 : decode b_Md_over 21 = .ok (.if_icmp .ne 7, 3) := by decide +kernel
theorem d_Md_over_24 : decode b_Md_over 24 = .ok (.iconst 1, 1) := by decide +kernel
theorem d_Md_over_25 : decode b_Md_over 25 = .ok (.goto 4, 3) := by decide +kernel
theorem d_Md_over_28 : decode b_Md_over 28 = .ok (.iconst 0, 1) := by decide +kernel
theorem d_Md_over_29 : decode b_Md_over 29 = .ok (.ireturn, 1) := by decide +kernel
theorem d_Md_result_0 : decode b_Md_result 0 = .ok (.aload_n 0, 1) := by decide +kernel
theorem d_Md_result_1 : decode b_Md_result 1 = .ok (.iload_n 1, 1) := by decide +kernel
theorem d_Md_result_2 : decode b_Md_result 2 = .ok (.iload_n 2, 1) := by decide +kernel
theorem d_Md_result_3 : decode b_Md_result 3 = .ok (.invokevirtual 200, 3) := by decide +kernel
theorem d_Md_result_6 : decode b_Md_result 6 = .ok (.ifCond .eq 17, 3) := by decide +kernel
theorem d_Md_result_9 : decode b_Md_result 9 = .ok (.aload_n 0, 1) := by decide +kernel
theorem d_Md_result_10 : decode b_Md_result 10 = .ok (.getfield 44, 3) := by decide +kernel
theorem d_Md_result_13 : decode b_Md_result 13 = .ok (.bipush 30, 2) := by decide +kernel
theorem d_Md_result_15 : decode b_Md_result 15 = .ok (.iload_n 1, 1) := by decide +kernel
theorem d_Md_result_16 : decode b_Md_result 16 = .ok (.imul, 1) := by decide +kernel
theorem d_Md_result_17 : decode b_Md_result 17 = .ok (.iload_n 2, 1) := by decide +kernel
theorem d_Md_result_18 : decode b_Md_result 18 = .ok (.iadd, 1) := by decide +kernel
theorem d_Md_result_19 : decode b_Md_result 19 = .ok (.iaload, 1) := by decide +kernel
theorem d_Md_result_20 : decode b_Md_result 20 = .ok (.goto 4, 3) := by decide +kernel
theorem d_Md_result_23 : decode b_Md_result 23 = .ok (.iconst 0, 1) := by decide +kernel
theorem d_Md_result_24 : decode b_Md_result 24 = .ok (.ireturn, 1) := by decide +kernel
theorem d_Md_place_0 : decode b_Md_place 0 = .ok (.aload_n 0, 1) := by decide +kernel
theorem d_Md_place_1 : decode b_Md_place 1 = .ok (.iload_n 1, 1) := by decide +kernel
theorem d_Md_place_2 : decode b_Md_place 2 = .ok (.iload_n 2, 1) := by decide +kernel
theorem d_Md_place_3 : decode b_Md_place 3 = .ok (.invokevirtual 200, 3) := by decide +kernel
theorem d_Md_place_6 : decode b_Md_place 6 = .ok (.ifCond .eq 17, 3) := by decide +kernel
theorem d_Md_place_9 : decode b_Md_place 9 = .ok (.aload_n 0, 1) := by decide +kernel
theorem d_Md_place_10 : decode b_Md_place 10 = .ok (.getfield 41, 3) := by decide +kernel
theorem d_Md_place_13 : decode b_Md_place 13 = .ok (.bipush 30, 2) := by decide +kernel
theorem d_Md_place_15 : decode b_Md_place 15 = .ok (.iload_n 1, 1) := by decide +kernel
theorem d_Md_place_16 : decode b_Md_place 16 = .ok (.imul, 1) := by decide +kernel
theorem d_Md_place_17 : decode b_Md_place 17 = .ok (.iload_n 2, 1) := by decide +kernel
theorem d_Md_place_18 : decode b_Md_place 18 = .ok (.iadd, 1) := by decide +kernel
theorem d_Md_place_19 : decode b_Md_place 19 = .ok (.iaload, 1) := by decide +kernel
theorem d_Md_place_20 : decode b_Md_place 20 = .ok (.goto 4, 3) := by decide +kernel
theorem d_Md_place_23 : decode b_Md_place 23 = .ok (.iconst (-1), 1) := by decide +kernel
theorem d_Md_place_24 : decode b_Md_place 24 = .ok (.ireturn, 1) := by decide +kernel
theorem d_Md_value_0 : decode b_Md_value 0 = .ok (.iload_n 1, 1) := by decide +kernel
theorem d_Md_value_1 : decode b_Md_value 1 = .ok (.ifCond .lt 33, 3) := by decide +kernel
theorem d_Md_value_4 : decode b_Md_value 4 = .ok (.iload_n 1, 1) := by decide +kernel
theorem d_Md_value_5 : decode b_Md_value 5 = .ok (.aload_n 0, 1) := by decide +kernel
theorem d_Md_value_6 : decode b_Md_value 6 = .ok (.getfield 86, 3) := by decide +kernel
theorem d_Md_value_9 : decode b_Md_value 9 = .ok (.if_icmp .ge 25, 3) := by decide +kernel
theorem d_Md_value_12 : decode b_Md_value 12 = .ok (.iload_n 2, 1) := by decide +kernel
theorem d_Md_value_13 : decode b_Md_value 13 = .ok (.ifCond .lt 21, 3) := by decide +kernel
theorem d_Md_value_16 : decode b_Md_value 16 = .ok (.iload_n 2, 1) := by decide +kernel
theorem d_Md_value_17 : decode b_Md_value 17 = .ok (.iconst 4, 1) := by decide +kernel
theorem d_Md_value_18 : decode b_Md_value 18 = .ok (.if_icmp .ge 16, 3) := by decide +kernel
theorem d_Md_value_21 : decode b_Md_value 21 = .ok (.aload_n 0, 1) := by decide +kernel
theorem d_Md_value_22 : decode b_Md_value 22 = .ok (.getfield 13, 3) := by decide +kernel
theorem d_Md_value_25 : decode b_Md_value 25 = .ok (.iconst 4, 1) := by decide +kernel
theorem d_Md_value_26 : decode b_Md_value 26 = .ok (.iload_n 1, 1) := by decide +kernel
theorem d_Md_value_27 : decode b_Md_value 27 = .ok (.imul, 1) := by decide +kernel
theorem d_Md_value_28 : decode b_Md_value 28 = .ok (.iload_n 2, 1) := by decide +kernel
theorem d_Md_value_29 : decode b_Md_value 29 = .ok (.iadd, 1) := by decide +kernel
theorem d_Md_value_30 : decode b_Md_value 30 = .ok (.iaload, 1) := by decide +kernel
theorem d_Md_value_31 : decode b_Md_value 31 = .ok (.goto 4, 3) := by decide +kernel
theorem d_Md_value_34 : decode b_Md_value 34 = .ok (.iconst 0, 1) := by decide +kernel
theorem d_Md_value_35 : decode b_Md_value 35 = .ok (.ireturn, 1) := by decide +kernel
theorem d_Law_cell_0 : decode b_Law_cell 0 = .ok (.iload_n 1, 1) := by decide +kernel
theorem d_Law_cell_1 : decode b_Law_cell 1 = .ok (.aload_n 0, 1) := by decide +kernel
theorem d_Law_cell_2 : decode b_Law_cell 2 = .ok (.arraylength, 1) := by decide +kernel
theorem d_Law_cell_3 : decode b_Law_cell 3 = .ok (.if_icmp .ge 9, 3) := by decide +kernel
theorem d_Law_cell_6 : decode b_Law_cell 6 = .ok (.aload_n 0, 1) := by decide +kernel
theorem d_Law_cell_7 : decode b_Law_cell 7 = .ok (.iload_n 1, 1) := by decide +kernel
theorem d_Law_cell_8 : decode b_Law_cell 8 = .ok (.iaload, 1) := by decide +kernel
theorem d_Law_cell_9 : decode b_Law_cell 9 = .ok (.goto 4, 3) := by decide +kernel
theorem d_Law_cell_12 : decode b_Law_cell 12 = .ok (.iconst 0, 1) := by decide +kernel
theorem d_Law_cell_13 : decode b_Law_cell 13 = .ok (.ireturn, 1) := by decide +kernel
