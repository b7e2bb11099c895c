theorem d_Md_take_0 : decode b_Md_take 0 = .ok (.iconst 0, 1) := by decide +kernel
theorem d_Md_take_1 : decode b_Md_take 1 = .ok (.istore_n 2, 1) := by decide +kernel
theorem d_Md_take_2 : decode b_Md_take 2 = .ok (.iload_n 2, 1) := by decide +kernel
theorem d_Md_take_3 : decode b_Md_take 3 = .ok (.bipush 11, 2) := by decide +kernel
theorem d_Md_take_5 : decode b_Md_take 5 = .ok (.if_icmp .ge 30, 3) := by decide +kernel
theorem d_Md_take_8 : decode b_Md_take 8 = .ok (.aload_n 0, 1) := by decide +kernel
theorem d_Md_take_9 : decode b_Md_take 9 = .ok (.getfield 80, 3) := by decide +kernel
theorem d_Md_take_12 : decode b_Md_take 12 = .ok (.sipush 440, 3) := by decide +kernel
theorem d_Md_take_15 : decode b_Md_take 15 = .ok (.iload_n 2, 1) := by decide +kernel
theorem d_Md_take_16 : decode b_Md_take 16 = .ok (.iadd, 1) := by decide +kernel
theorem d_Md_take_17 : decode b_Md_take 17 = .ok (.aload_n 0, 1) := by decide +kernel
theorem d_Md_take_18 : decode b_Md_take 18 = .ok (.getfield 80, 3) := by decide +kernel
theorem d_Md_take_21 : decode b_Md_take 21 = .ok (.bipush 11, 2) := by decide +kernel
theorem d_Md_take_23 : decode b_Md_take 23 = .ok (.iload_n 1, 1) := by decide +kernel
theorem d_Md_take_24 : decode b_Md_take 24 = .ok (.imul, 1) := by decide +kernel
theorem d_Md_take_25 : decode b_Md_take 25 = .ok (.iload_n 2, 1) := by decide +kernel
theorem d_Md_take_26 : decode b_Md_take 26 = .ok (.iadd, 1) := by decide +kernel
theorem d_Md_take_27 : decode b_Md_take 27 = .ok (.iaload, 1) := by decide +kernel
theorem d_Md_take_28 : decode b_Md_take 28 = .ok (.iastore, 1) := by decide +kernel
theorem d_Md_take_29 : decode b_Md_take 29 = .ok (.iinc 2 1, 3) := by decide +kernel
theorem d_Md_take_32 : decode b_Md_take 32 = .ok (.goto (-30), 3) := by decide +kernel
theorem d_Md_take_35 : decode b_Md_take 35 = .ok (.bipush 11, 2) := by decide +kernel
theorem d_Md_take_37 : decode b_Md_take 37 = .ok (.iload_n 1, 1) := by decide +kernel
theorem d_Md_take_38 : decode b_Md_take 38 = .ok (.imul, 1) := by decide +kernel
theorem d_Md_take_39 : decode b_Md_take 39 = .ok (.istore_n 2, 1) := by decide +kernel
theorem d_Md_take_40 : decode b_Md_take 40 = .ok (.iload_n 2, 1) := by decide +kernel
theorem d_Md_take_41 : decode b_Md_take 41 = .ok (.bipush 11, 2) := by decide +kernel
theorem d_Md_take_43 : decode b_Md_take 43 = .ok (.iadd, 1) := by decide +kernel
theorem d_Md_take_44 : decode b_Md_take 44 = .ok (.bipush 11, 2) := by decide +kernel
theorem d_Md_take_46 : decode b_Md_take 46 = .ok (.aload_n 0, 1) := by decide +kernel
theorem d_Md_take_47 : decode b_Md_take 47 = .ok (.getfield 108, 3) := by decide +kernel
theorem d_Md_take_50 : decode b_Md_take 50 = .ok (.imul, 1) := by decide +kernel
theorem d_Md_take_51 : decode b_Md_take 51 = .ok (.if_icmp .ge 24, 3) := by decide +kernel
theorem d_Md_take_54 : decode b_Md_take 54 = .ok (.aload_n 0, 1) := by decide +kernel
theorem d_Md_take_55 : decode b_Md_take 55 = .ok (.getfield 80, 3) := by decide +kernel
theorem d_Md_take_58 : decode b_Md_take 58 = .ok (.iload_n 2, 1) := by decide +kernel
theorem d_Md_take_59 : decode b_Md_take 59 = .ok (.aload_n 0, 1) := by decide +kernel
theorem d_Md_take_60 : decode b_Md_take 60 = .ok (.getfield 80, 3) := by decide +kernel
theorem d_Md_take_63 : decode b_Md_take 63 = .ok (.iload_n 2, 1) := by decide +kernel
theorem d_Md_take_64 : decode b_Md_take 64 = .ok (.bipush 11, 2) := by decide +kernel
theorem d_Md_take_66 : decode b_Md_take 66 = .ok (.iadd, 1) := by decide +kernel
theorem d_Md_take_67 : decode b_Md_take 67 = .ok (.iaload, 1) := by decide +kernel
theorem d_Md_take_68 : decode b_Md_take 68 = .ok (.iastore, 1) := by decide +kernel
theorem d_Md_take_69 : decode b_Md_take 69 = .ok (.iinc 2 1, 3) := by decide +kernel
theorem d_Md_take_72 : decode b_Md_take 72 = .ok (.goto (-32), 3) := by decide +kernel
theorem d_Md_take_75 : decode b_Md_take 75 = .ok (.aload_n 0, 1) := by decide +kernel
theorem d_Md_take_76 : decode b_Md_take 76 = .ok (.dup, 1) := by decide +kernel
theorem d_Md_take_77 : decode b_Md_take 77 = .ok (.getfield 108, 3) := by decide +kernel
theorem d_Md_take_80 : decode b_Md_take 80 = .ok (.iconst 1, 1) := by decide +kernel
theorem d_Md_take_81 : decode b_Md_take 81 = .ok (.isub, 1) := by decide +kernel
theorem d_Md_take_82 : decode b_Md_take 82 = .ok (.putfield 108, 3) := by decide +kernel
theorem d_Md_take_85 : decode b_Md_take 85 = .ok (.return_, 1) := by decide +kernel
theorem d_Md_lose_0 : decode b_Md_lose 0 = .ok (.iload_n 1, 1) := by decide +kernel
theorem d_Md_lose_1 : decode b_Md_lose 1 = .ok (.ifCond .lt 11, 3) := by decide +kernel
theorem d_Md_lose_4 : decode b_Md_lose 4 = .ok (.iload_n 1, 1) := by decide +kernel
theorem d_Md_lose_5 : decode b_Md_lose 5 = .ok (.aload_n 0, 1) := by decide +kernel
theorem d_Md_lose_6 : decode b_Md_lose 6 = .ok (.getfield 108, 3) := by decide +kernel
theorem d_Md_lose_9 : decode b_Md_lose 9 = .ok (.if_icmp .lt 5, 3) := by decide +kernel
theorem d_Md_lose_12 : decode b_Md_lose 12 = .ok (.iconst 0, 1) := by decide +kernel
theorem d_Md_lose_13 : decode b_Md_lose 13 = .ok (.ireturn, 1) := by decide +kernel
theorem d_Md_lose_14 : decode b_Md_lose 14 = .ok (.aload_n 0, 1) := by decide +kernel
theorem d_Md_lose_15 : decode b_Md_lose 15 = .ok (.iload_n 1, 1) := by decide +kernel
theorem d_Md_lose_16 : decode b_Md_lose 16 = .ok (.invokevirtual 118, 3) := by decide +kernel
theorem d_Md_lose_19 : decode b_Md_lose 19 = .ok (.iconst 1, 1) := by decide +kernel
theorem d_Md_lose_20 : decode b_Md_lose 20 = .ok (.ireturn, 1) := by decide +kernel
theorem d_Md_preaccept_0 : decode b_Md_preaccept 0 = .ok (.bipush 30, 2) := by decide +kernel
theorem d_Md_preaccept_2 : decode b_Md_preaccept 2 = .ok (.iload_n 1, 1) := by decide +kernel
theorem d_Md_preaccept_3 : decode b_Md_preaccept 3 = .ok (.imul, 1) := by decide +kernel
theorem d_Md_preaccept_4 : decode b_Md_preaccept 4 = .ok (.iload_n 3, 1) := by decide +kernel
theorem d_Md_preaccept_5 : decode b_Md_preaccept 5 = .ok (.iadd, 1) := by decide +kernel
theorem d_Md_preaccept_6 : decode b_Md_preaccept 6 = .ok (.istore 4, 2) := by decide +kernel
theorem d_Md_preaccept_8 : decode b_Md_preaccept 8 = .ok (.aload_n 0, 1) := by decide +kernel
theorem d_Md_preaccept_9 : decode b_Md_preaccept 9 = .ok (.getfield 80, 3) := by decide +kernel
theorem d_Md_preaccept_12 : decode b_Md_preaccept 12 = .ok (.sipush 444, 3) := by decide +kernel
theorem d_Md_preaccept_15 : decode b_Md_preaccept 15 = .ok (.iaload, 1) := by decide +kernel
theorem d_Md_preaccept_16 : decode b_Md_preaccept 16 = .ok (.istore 5, 2) := by decide +kernel
theorem d_Md_preaccept_18 : decode b_Md_preaccept 18 = .ok (.iload 5, 2) := by decide +kernel
theorem d_Md_preaccept_20 : decode b_Md_preaccept 20 = .ok (.aload_n 0, 1) := by decide +kernel
theorem d_Md_preaccept_21 : decode b_Md_preaccept 21 = .ok (.getfield 35, 3) := by decide +kernel
theorem d_Md_preaccept_24 : decode b_Md_preaccept 24 = .ok (.iload 4, 2) := by decide +kernel
theorem d_Md_preaccept_26 : decode b_Md_preaccept 26 = .ok (.iaload, 1) := by decide +kernel
theorem d_Md_preaccept_27 : decode b_Md_preaccept 27 = .ok (.if_icmp .lt 26, 3) := by decide +kernel
theorem d_Md_preaccept_30 : decode b_Md_preaccept 30 = .ok (.aload_n 0, 1) := by decide +kernel
theorem d_Md_preaccept_31 : decode b_Md_preaccept 31 = .ok (.getfield 20, 3) := by decide +kernel
theorem d_Md_preaccept_34 : decode b_Md_preaccept 34 = .ok (.iload 4, 2) := by decide +kernel
theorem d_Md_preaccept_36 : decode b_Md_preaccept 36 = .ok (.iaload, 1) := by decide +kernel
theorem d_Md_preaccept_37 : decode b_Md_preaccept 37 = .ok (.iconst 2, 1) := by decide +kernel
theorem d_Md_preaccept_38 : decode b_Md_preaccept 38 = .ok (.if_icmp .ne 16, 3) := by decide +kernel
theorem d_Md_preaccept_41 : decode b_Md_preaccept 41 = .ok (.aload_n 0, 1) := by decide +kernel
theorem d_Md_preaccept_42 : decode b_Md_preaccept 42 = .ok (.getfield 38, 3) := by decide +kernel
theorem d_Md_preaccept_45 : decode b_Md_preaccept 45 = .ok (.iload 4, 2) := by decide +kernel
theorem d_Md_preaccept_47 : decode b_Md_preaccept 47 = .ok (.iaload, 1) := by decide +kernel
theorem d_Md_preaccept_48 : decode b_Md_preaccept 48 = .ok (.iload 5, 2) := by decide +kernel
theorem d_Md_preaccept_50 : decode b_Md_preaccept 50 = .ok (.if_icmp .ne 4, 3) := by decide +kernel
theorem d_Md_preaccept_53 : decode b_Md_preaccept 53 = .ok (.return_, 1) := by decide +kernel
theorem d_Md_preaccept_54 : decode b_Md_preaccept 54 = .ok (.aload_n 0, 1) := by decide +kernel
theorem d_Md_preaccept_55 : decode b_Md_preaccept 55 = .ok (.getfield 35, 3) := by decide +kernel
theorem d_Md_preaccept_58 : decode b_Md_preaccept 58 = .ok (.iload 4, 2) := by decide +kernel
theorem d_Md_preaccept_60 : decode b_Md_preaccept 60 = .ok (.iload 5, 2) := by decide +kernel
theorem d_Md_preaccept_62 : decode b_Md_preaccept 62 = .ok (.iastore, 1) := by decide +kernel
theorem d_Md_preaccept_63 : decode b_Md_preaccept 63 = .ok (.aload_n 0, 1) := by decide +kernel
theorem d_Md_preaccept_64 : decode b_Md_preaccept 64 = .ok (.getfield 38, 3) := by decide +kernel
theorem d_Md_preaccept_67 : decode b_Md_preaccept 67 = .ok (.iload 4, 2) := by decide +kernel
theorem d_Md_preaccept_69 : decode b_Md_preaccept 69 = .ok (.iload 5, 2) := by decide +kernel
theorem d_Md_preaccept_71 : decode b_Md_preaccept 71 = .ok (.iastore, 1) := by decide +kernel
theorem d_Md_preaccept_72 : decode b_Md_preaccept 72 = .ok (.aload_n 0, 1) := by decide +kernel
theorem d_Md_preaccept_73 : decode b_Md_preaccept 73 = .ok (.iload_n 1, 1) := by decide +kernel
theorem d_Md_preaccept_74 : decode b_Md_preaccept 74 = .ok (.iload_n 3, 1) := by decide +kernel
theorem d_Md_preaccept_75 : decode b_Md_preaccept 75 = .ok (.aload_n 0, 1) := by decide +kernel
theorem d_Md_preaccept_76 : decode b_Md_preaccept 76 = .ok (.getfield 80, 3) := by decide +kernel
theorem d_Md_preaccept_79 : decode b_Md_preaccept 79 = .ok (.sipush 445, 3) := by decide +kernel
theorem d_Md_preaccept_82 : decode b_Md_preaccept 82 = .ok (.iaload, 1) := by decide +kernel
theorem d_Md_preaccept_83 : decode b_Md_preaccept 83 = .ok (.aload_n 0, 1) := by decide +kernel
theorem d_Md_preaccept_84 : decode b_Md_preaccept 84 = .ok (.getfield 80, 3) := by decide +kernel
theorem d_Md_preaccept_87 : decode b_Md_preaccept 87 = .ok (.sipush 446, 3) := by decide +kernel
theorem d_Md_preaccept_90 : decode b_Md_preaccept 90 = .ok (.iaload, 1) := by decide +kernel
theorem d_Md_preaccept_91 : decode b_Md_preaccept 91 = .ok (.aload_n 0, 1) := by decide +kernel
theorem d_Md_preaccept_92 : decode b_Md_preaccept 92 = .ok (.getfield 80, 3) := by decide +kernel
theorem d_Md_preaccept_95 : decode b_Md_preaccept 95 = .ok (.sipush 447, 3) := by decide +kernel
theorem d_Md_preaccept_98 : decode b_Md_preaccept 98 = .ok (.iaload, 1) := by decide +kernel
theorem d_Md_preaccept_99 : decode b_Md_preaccept 99 = .ok (.aload_n 0, 1) := by decide +kernel
theorem d_Md_preaccept_100 : decode b_Md_preaccept 100 = .ok (.getfield 80, 3) := by decide +kernel
theorem d_Md_preaccept_103 : decode b_Md_preaccept 103 = .ok (.sipush 448, 3) := by decide +kernel
theorem d_Md_preaccept_106 : decode b_Md_preaccept 106 = .ok (.iaload, 1) := by decide +kernel
theorem d_Md_preaccept_107 : decode b_Md_preaccept 107 = .ok (.invokevirtual 151, 3) := by decide +kernel
theorem d_Md_preaccept_110 : decode b_Md_preaccept 110 = .ok (.aload_n 0, 1) := by decide +kernel
theorem d_Md_preaccept_111 : decode b_Md_preaccept 111 = .ok (.iconst 1, 1) := by decide +kernel
theorem d_Md_preaccept_112 : decode b_Md_preaccept 112 = .ok (.iload_n 1, 1) := by decide +kernel
theorem d_Md_preaccept_113 : decode b_Md_preaccept 113 = .ok (.iload_n 2, 1) := by decide +kernel
theorem d_Md_preaccept_114 : decode b_Md_preaccept 114 = .ok (.iload_n 3, 1) := by decide +kernel
theorem d_Md_preaccept_115 : decode b_Md_preaccept 115 = .ok (.iload 5, 2) := by decide +kernel
theorem d_Md_preaccept_117 : decode b_Md_preaccept 117 = .ok (.invokevirtual 114, 3) := by decide +kernel
theorem d_Md_preaccept_120 : decode b_Md_preaccept 120 = .ok (.return_, 1) := by decide +kernel
theorem d_Md_accept_0 : decode b_Md_accept 0 = .ok (.bipush 30, 2) := by decide +kernel
theorem d_Md_accept_2 : decode b_Md_accept 2 = .ok (.iload_n 1, 1) := by decide +kernel
theorem d_Md_accept_3 : decode b_Md_accept 3 = .ok (.imul, 1) := by decide +kernel
theorem d_Md_accept_4 : decode b_Md_accept 4 = .ok (.iload_n 3, 1) := by decide +kernel
theorem d_Md_accept_5 : decode b_Md_accept 5 = .ok (.iadd, 1) := by decide +kernel
theorem d_Md_accept_6 : decode b_Md_accept 6 = .ok (.istore 4, 2) := by decide +kernel
theorem d_Md_accept_8 : decode b_Md_accept 8 = .ok (.aload_n 0, 1) := by decide +kernel
theorem d_Md_accept_9 : decode b_Md_accept 9 = .ok (.getfield 80, 3) := by decide +kernel
theorem d_Md_accept_12 : decode b_Md_accept 12 = .ok (.sipush 444, 3) := by decide +kernel
theorem d_Md_accept_15 : decode b_Md_accept 15 = .ok (.iaload, 1) := by decide +kernel
theorem d_Md_accept_16 : decode b_Md_accept 16 = .ok (.istore 5, 2) := by decide +kernel
theorem d_Md_accept_18 : decode b_Md_accept 18 = .ok (.iload 5, 2) := by decide +kernel
theorem d_Md_accept_20 : decode b_Md_accept 20 = .ok (.aload_n 0, 1) := by decide +kernel
theorem d_Md_accept_21 : decode b_Md_accept 21 = .ok (.getfield 35, 3) := by decide +kernel
theorem d_Md_accept_24 : decode b_Md_accept 24 = .ok (.iload 4, 2) := by decide +kernel
theorem d_Md_accept_26 : decode b_Md_accept 26 = .ok (.iaload, 1) := by decide +kernel
theorem d_Md_accept_27 : decode b_Md_accept 27 = .ok (.if_icmp .ge 4, 3) := by decide +kernel
theorem d_Md_accept_30 : decode b_Md_accept 30 = .ok (.return_, 1) := by decide +kernel
theorem d_Md_accept_31 : decode b_Md_accept 31 = .ok (.aload_n 0, 1) := by decide +kernel
theorem d_Md_accept_32 : decode b_Md_accept 32 = .ok (.getfield 35, 3) := by decide +kernel
theorem d_Md_accept_35 : decode b_Md_accept 35 = .ok (.iload 4, 2) := by decide +kernel
theorem d_Md_accept_37 : decode b_Md_accept 37 = .ok (.iload 5, 2) := by decide +kernel
theorem d_Md_accept_39 : decode b_Md_accept 39 = .ok (.iastore, 1) := by decide +kernel
theorem d_Md_accept_40 : decode b_Md_accept 40 = .ok (.aload_n 0, 1) := by decide +kernel
theorem d_Md_accept_41 : decode b_Md_accept 41 = .ok (.getfield 38, 3) := by decide +kernel
theorem d_Md_accept_44 : decode b_Md_accept 44 = .ok (.iload 4, 2) := by decide +kernel
theorem d_Md_accept_46 : decode b_Md_accept 46 = .ok (.iload 5, 2) := by decide +kernel
theorem d_Md_accept_48 : decode b_Md_accept 48 = .ok (.iastore, 1) := by decide +kernel
theorem d_Md_accept_49 : decode b_Md_accept 49 = .ok (.aload_n 0, 1) := by decide +kernel
theorem d_Md_accept_50 : decode b_Md_accept 50 = .ok (.iload 4, 2) := by decide +kernel
theorem d_Md_accept_52 : decode b_Md_accept 52 = .ok (.iconst 2, 1) := by decide +kernel
theorem d_Md_accept_53 : decode b_Md_accept 53 = .ok (.aload_n 0, 1) := by decide +kernel
theorem d_Md_accept_54 : decode b_Md_accept 54 = .ok (.getfield 80, 3) := by decide +kernel
theorem d_Md_accept_57 : decode b_Md_accept 57 = .ok (.sipush 445, 3) := by decide +kernel
theorem d_Md_accept_60 : decode b_Md_accept 60 = .ok (.iaload, 1) := by decide +kernel
theorem d_Md_accept_61 : decode b_Md_accept 61 = .ok (.aload_n 0, 1) := by decide +kernel
theorem d_Md_accept_62 : decode b_Md_accept 62 = .ok (.getfield 80, 3) := by decide +kernel
theorem d_Md_accept_65 : decode b_Md_accept 65 = .ok (.sipush 446, 3) := by decide +kernel
theorem d_Md_accept_68 : decode b_Md_accept 68 = .ok (.iaload, 1) := by decide +kernel
theorem d_Md_accept_69 : decode b_Md_accept 69 = .ok (.invokevirtual 104, 3) := by decide +kernel
theorem d_Md_accept_72 : decode b_Md_accept 72 = .ok (.aload_n 0, 1) := by decide +kernel
theorem d_Md_accept_73 : decode b_Md_accept 73 = .ok (.getfield 29, 3) := by decide +kernel
theorem d_Md_accept_76 : decode b_Md_accept 76 = .ok (.iload 4, 2) := by decide +kernel
theorem d_Md_accept_78 : decode b_Md_accept 78 = .ok (.aload_n 0, 1) := by decide +kernel
theorem d_Md_accept_79 : decode b_Md_accept 79 = .ok (.getfield 80, 3) := by decide +kernel
theorem d_Md_accept_82 : decode b_Md_accept 82 = .ok (.sipush 447, 3) := by decide +kernel
theorem d_Md_accept_85 : decode b_Md_accept 85 = .ok (.iaload, 1) := by decide +kernel
theorem d_Md_accept_86 : decode b_Md_accept 86 = .ok (.iastore, 1) := by decide +kernel
theorem d_Md_accept_87 : decode b_Md_accept 87 = .ok (.aload_n 0, 1) := by decide +kernel
theorem d_Md_accept_88 : decode b_Md_accept 88 = .ok (.getfield 32, 3) := by decide +kernel
theorem d_Md_accept_91 : decode b_Md_accept 91 = .ok (.iload 4, 2) := by decide +kernel
theorem d_Md_accept_93 : decode b_Md_accept 93 = .ok (.aload_n 0, 1) := by decide +kernel
theorem d_Md_accept_94 : decode b_Md_accept 94 = .ok (.getfield 80, 3) := by decide +kernel
theorem d_Md_accept_97 : decode b_Md_accept 97 = .ok (.sipush 448, 3) := by decide +kernel
theorem d_Md_accept_100 : decode b_Md_accept 100 = .ok (.iaload, 1) := by decide +kernel
theorem d_Md_accept_101 : decode b_Md_accept 101 = .ok (.iastore, 1) := by decide +kernel
theorem d_Md_accept_102 : decode b_Md_accept 102 = .ok (.aload_n 0, 1) := by decide +kernel
theorem d_Md_accept_103 : decode b_Md_accept 103 = .ok (.iconst 3, 1) := by decide +kernel
theorem d_Md_accept_104 : decode b_Md_accept 104 = .ok (.iload_n 1, 1) := by decide +kernel
theorem d_Md_accept_105 : decode b_Md_accept 105 = .ok (.iload_n 2, 1) := by decide +kernel
theorem d_Md_accept_106 : decode b_Md_accept 106 = .ok (.iload_n 3, 1) := by decide +kernel
theorem d_Md_accept_107 : decode b_Md_accept 107 = .ok (.iload 5, 2) := by decide +kernel
theorem d_Md_accept_109 : decode b_Md_accept 109 = .ok (.invokevirtual 114, 3) := by decide +kernel
theorem d_Md_accept_112 : decode b_Md_accept 112 = .ok (.return_, 1) := by decide +kernel
theorem d_Md_asked_0 : decode b_Md_asked 0 = .ok (.bipush 30, 2) := by decide +kernel
theorem d_Md_asked_2 : decode b_Md_asked 2 = .ok (.iload_n 1, 1) := by decide +kernel
theorem d_Md_asked_3 : decode b_Md_asked 3 = .ok (.imul, 1) := by decide +kernel
theorem d_Md_asked_4 : decode b_Md_asked 4 = .ok (.iload_n 3, 1) := by decide +kernel
theorem d_Md_asked_5 : decode b_Md_asked 5 = .ok (.iadd, 1) := by decide +kernel
theorem d_Md_asked_6 : decode b_Md_asked 6 = .ok (.istore 4, 2) := by decide +kernel
theorem d_Md_asked_8 : decode b_Md_asked 8 = .ok (.aload_n 0, 1) := by decide +kernel
theorem d_Md_asked_9 : decode b_Md_asked 9 = .ok (.getfield 80, 3) := by decide +kernel
theorem d_Md_asked_12 : decode b_Md_asked 12 = .ok (.sipush 444, 3) := by decide +kernel
theorem d_Md_asked_15 : decode b_Md_asked 15 = .ok (.iaload, 1) := by decide +kernel
theorem d_Md_asked_16 : decode b_Md_asked 16 = .ok (.istore 5, 2) := by decide +kernel
theorem d_Md_asked_18 : decode b_Md_asked 18 = .ok (.iload 5, 2) := by decide +kernel
theorem d_Md_asked_20 : decode b_Md_asked 20 = .ok (.aload_n 0, 1) := by decide +kernel
theorem d_Md_asked_21 : decode b_Md_asked 21 = .ok (.getfield 35, 3) := by decide +kernel
theorem d_Md_asked_24 : decode b_Md_asked 24 = .ok (.iload 4, 2) := by decide +kernel
theorem d_Md_asked_26 : decode b_Md_asked 26 = .ok (.iaload, 1) := by decide +kernel
theorem d_Md_asked_27 : decode b_Md_asked 27 = .ok (.if_icmp .gt 4, 3) := by decide +kernel
theorem d_Md_asked_30 : decode b_Md_asked 30 = .ok (.return_, 1) := by decide +kernel
theorem d_Md_asked_31 : decode b_Md_asked 31 = .ok (.aload_n 0, 1) := by decide +kernel
theorem d_Md_asked_32 : decode b_Md_asked 32 = .ok (.getfield 35, 3) := by decide +kernel
theorem d_Md_asked_35 : decode b_Md_asked 35 = .ok (.iload 4, 2) := by decide +kernel
theorem d_Md_asked_37 : decode b_Md_asked 37 = .ok (.iload 5, 2) := by decide +kernel
theorem d_Md_asked_39 : decode b_Md_asked 39 = .ok (.iastore, 1) := by decide +kernel
theorem d_Md_asked_40 : decode b_Md_asked 40 = .ok (.aload_n 0, 1) := by decide +kernel
theorem d_Md_asked_41 : decode b_Md_asked 41 = .ok (.bipush 6, 2) := by decide +kernel
theorem d_Md_asked_43 : decode b_Md_asked 43 = .ok (.iload_n 1, 1) := by decide +kernel
theorem d_Md_asked_44 : decode b_Md_asked 44 = .ok (.iload_n 2, 1) := by decide +kernel
theorem d_Md_asked_45 : decode b_Md_asked 45 = .ok (.iload_n 3, 1) := by decide +kernel
theorem d_Md_asked_46 : decode b_Md_asked 46 = .ok (.iload 5, 2) := by decide +kernel
theorem d_Md_asked_48 : decode b_Md_asked 48 = .ok (.invokevirtual 114, 3) := by decide +kernel
theorem d_Md_asked_51 : decode b_Md_asked 51 = .ok (.return_, 1) := by decide +kernel
theorem d_Md_settle_0 : decode b_Md_settle 0 = .ok (.aload_n 0, 1) := by decide +kernel
theorem d_Md_settle_1 : decode b_Md_settle 1 = .ok (.iload_n 1, 1) := by decide +kernel
theorem d_Md_settle_2 : decode b_Md_settle 2 = .ok (.iconst 3, 1) := by decide +kernel
theorem d_Md_settle_3 : decode b_Md_settle 3 = .ok (.aload_n 0, 1) := by decide +kernel
theorem d_Md_settle_4 : decode b_Md_settle 4 = .ok (.getfield 80, 3) := by decide +kernel
theorem d_Md_settle_7 : decode b_Md_settle 7 = .ok (.sipush 445, 3) := by decide +kernel
theorem d_Md_settle_10 : decode b_Md_settle 10 = .ok (.iaload, 1) := by decide +kernel
theorem d_Md_settle_11 : decode b_Md_settle 11 = .ok (.aload_n 0, 1) := by decide +kernel
theorem d_Md_settle_12 : decode b_Md_settle 12 = .ok (.getfield 80, 3) := by decide +kernel
theorem d_Md_settle_15 : decode b_Md_settle 15 = .ok (.sipush 446, 3) := by decide +kernel
theorem d_Md_settle_18 : decode b_Md_settle 18 = .ok (.iaload, 1) := by decide +kernel
theorem d_Md_settle_19 : decode b_Md_settle 19 = .ok (.invokevirtual 104, 3) := by decide +kernel
theorem d_Md_settle_22 : decode b_Md_settle 22 = .ok (.aload_n 0, 1) := by decide +kernel
theorem d_Md_settle_23 : decode b_Md_settle 23 = .ok (.getfield 29, 3) := by decide +kernel
theorem d_Md_settle_26 : decode b_Md_settle 26 = .ok (.iload_n 1, 1) := by decide +kernel
theorem d_Md_settle_27 : decode b_Md_settle 27 = .ok (.aload_n 0, 1) := by decide +kernel
theorem d_Md_settle_28 : decode b_Md_settle 28 = .ok (.getfield 80, 3) := by decide +kernel
theorem d_Md_settle_31 : decode b_Md_settle 31 = .ok (.sipush 447, 3) := by decide +kernel
theorem d_Md_settle_34 : decode b_Md_settle 34 = .ok (.iaload, 1) := by decide +kernel
theorem d_Md_settle_35 : decode b_Md_settle 35 = .ok (.iastore, 1) := by decide +kernel
theorem d_Md_settle_36 : decode b_Md_settle 36 = .ok (.aload_n 0, 1) := by decide +kernel
theorem d_Md_settle_37 : decode b_Md_settle 37 = .ok (.getfield 32, 3) := by decide +kernel
theorem d_Md_settle_40 : decode b_Md_settle 40 = .ok (.iload_n 1, 1) := by decide +kernel
theorem d_Md_settle_41 : decode b_Md_settle 41 = .ok (.aload_n 0, 1) := by decide +kernel
theorem d_Md_settle_42 : decode b_Md_settle 42 = .ok (.getfield 80, 3) := by decide +kernel
theorem d_Md_settle_45 : decode b_Md_settle 45 = .ok (.sipush 448, 3) := by decide +kernel
theorem d_Md_settle_48 : decode b_Md_settle 48 = .ok (.iaload, 1) := by decide +kernel
theorem d_Md_settle_49 : decode b_Md_settle 49 = .ok (.iastore, 1) := by decide +kernel
theorem d_Md_settle_50 : decode b_Md_settle 50 = .ok (.return_, 1) := by decide +kernel
theorem d_Md_counts_0 : decode b_Md_counts 0 = .ok (.aload_n 0, 1) := by decide +kernel
theorem d_Md_counts_1 : decode b_Md_counts 1 = .ok (.getfield 80, 3) := by decide +kernel
theorem d_Md_counts_4 : decode b_Md_counts 4 = .ok (.sipush 444, 3) := by decide +kernel
theorem d_Md_counts_7 : decode b_Md_counts 7 = .ok (.iaload, 1) := by decide +kernel
theorem d_Md_counts_8 : decode b_Md_counts 8 = .ok (.istore_n 3, 1) := by decide +kernel
theorem d_Md_counts_9 : decode b_Md_counts 9 = .ok (.aload_n 0, 1) := by decide +kernel
theorem d_Md_counts_10 : decode b_Md_counts 10 = .ok (.getfield 47, 3) := by decide +kernel
theorem d_Md_counts_13 : decode b_Md_counts 13 = .ok (.iload_n 1, 1) := by decide +kernel
theorem d_Md_counts_14 : decode b_Md_counts 14 = .ok (.baload, 1) := by decide +kernel
theorem d_Md_counts_15 : decode b_Md_counts 15 = .ok (.ifCond .eq 32, 3) := by decide +kernel
theorem d_Md_counts_18 : decode b_Md_counts 18 = .ok (.aload_n 0, 1) := by decide +kernel
theorem d_Md_counts_19 : decode b_Md_counts 19 = .ok (.getfield 53, 3) := by decide +kernel
theorem d_Md_counts_22 : decode b_Md_counts 22 = .ok (.iload_n 1, 1) := by decide +kernel
theorem d_Md_counts_23 : decode b_Md_counts 23 = .ok (.iaload, 1) := by decide +kernel
theorem d_Md_counts_24 : decode b_Md_counts 24 = .ok (.aload_n 0, 1) := by decide +kernel
theorem d_Md_counts_25 : decode b_Md_counts 25 = .ok (.getfield 35, 3) := by decide +kernel
theorem d_Md_counts_28 : decode b_Md_counts 28 = .ok (.iload_n 1, 1) := by decide +kernel
theorem d_Md_counts_29 : decode b_Md_counts 29 = .ok (.iaload, 1) := by decide +kernel
theorem d_Md_counts_30 : decode b_Md_counts 30 = .ok (.if_icmp .ne 17, 3) := by decide +kernel
theorem d_Md_counts_33 : decode b_Md_counts 33 = .ok (.aload_n 0, 1) := by decide +kernel
theorem d_Md_counts_34 : decode b_Md_counts 34 = .ok (.getfield 20, 3) := by decide +kernel
theorem d_Md_counts_37 : decode b_Md_counts 37 = .ok (.iload_n 1, 1) := by decide +kernel
theorem d_Md_counts_38 : decode b_Md_counts 38 = .ok (.iaload, 1) := by decide +kernel
theorem d_Md_counts_39 : decode b_Md_counts 39 = .ok (.iconst 3, 1) := by decide +kernel
theorem d_Md_counts_40 : decode b_Md_counts 40 = .ok (.if_icmp .ge 7, 3) := by decide +kernel
theorem d_Md_counts_43 : decode b_Md_counts 43 = .ok (.iconst 1, 1) := by decide +kernel
theorem d_Md_counts_44 : decode b_Md_counts 44 = .ok (.goto 4, 3) := by decide +kernel
theorem d_Md_counts_47 : decode b_Md_counts 47 = .ok (.iconst 0, 1) := by decide +kernel
theorem d_Md_counts_48 : decode b_Md_counts 48 = .ok (.istore 4, 2) := by decide +kernel
theorem d_Md_counts_50 : decode b_Md_counts 50 = .ok (.aload_n 0, 1) := by decide +kernel
theorem d_Md_counts_51 : decode b_Md_counts 51 = .ok (.getfield 50, 3) := by decide +kernel
theorem d_Md_counts_54 : decode b_Md_counts 54 = .ok (.iload_n 1, 1) := by decide +kernel
theorem d_Md_counts_55 : decode b_Md_counts 55 = .ok (.iaload, 1) := by decide +kernel
theorem d_Md_counts_56 : decode b_Md_counts 56 = .ok (.iload_n 2, 1) := by decide +kernel
theorem d_Md_counts_57 : decode b_Md_counts 57 = .ok (.if_icmp .eq 17, 3) := by decide +kernel
theorem d_Md_counts_60 : decode b_Md_counts 60 = .ok (.iload_n 2, 1) := by decide +kernel
theorem d_Md_counts_61 : decode b_Md_counts 61 = .ok (.iconst 1, 1) := by decide +kernel
theorem d_Md_counts_62 : decode b_Md_counts 62 = .ok (.if_icmp .ne 16, 3) := by decide +kernel
theorem d_Md_counts_65 : decode b_Md_counts 65 = .ok (.aload_n 0, 1) := by decide +kernel
theorem d_Md_counts_66 : decode b_Md_counts 66 = .ok (.getfield 50, 3) := by decide +kernel
theorem d_Md_counts_69 : decode b_Md_counts 69 = .ok (.iload_n 1, 1) := by decide +kernel
theorem d_Md_counts_70 : decode b_Md_counts 70 = .ok (.iaload, 1) := by decide +kernel
theorem d_Md_counts_71 : decode b_Md_counts 71 = .ok (.ifCond .ne 7, 3) := by decide +kernel
theorem d_Md_counts_74 : decode b_Md_counts 74 = .ok (.iconst 1, 1) := by decide +kernel
theorem d_Md_counts_75 : decode b_Md_counts 75 = .ok (.goto 4, 3) := by decide +kernel
theorem d_Md_counts_78 : decode b_Md_counts 78 = .ok (.iconst 0, 1) := by decide +kernel
theorem d_Md_counts_79 : decode b_Md_counts 79 = .ok (.istore 5, 2) := by decide +kernel
theorem d_Md_counts_81 : decode b_Md_counts 81 = .ok (.iload 4, 2) := by decide +kernel
theorem d_Md_counts_83 : decode b_Md_counts 83 = .ok (.ifCond .eq 28, 3) := by decide +kernel
theorem d_Md_counts_86 : decode b_Md_counts 86 = .ok (.iload 5, 2) := by decide +kernel
theorem d_Md_counts_88 : decode b_Md_counts 88 = .ok (.ifCond .eq 23, 3) := by decide +kernel
theorem d_Md_counts_91 : decode b_Md_counts 91 = .ok (.aload_n 0, 1) := by decide +kernel
theorem d_Md_counts_92 : decode b_Md_counts 92 = .ok (.getfield 53, 3) := by decide +kernel
theorem d_Md_counts_95 : decode b_Md_counts 95 = .ok (.iload_n 1, 1) := by decide +kernel
theorem d_Md_counts_96 : decode b_Md_counts 96 = .ok (.iaload, 1) := by decide +kernel
theorem d_Md_counts_97 : decode b_Md_counts 97 = .ok (.iload_n 3, 1) := by decide +kernel
theorem d_Md_counts_98 : decode b_Md_counts 98 = .ok (.if_icmp .ne 13, 3) := by decide +kernel
theorem d_Md_counts_101 : decode b_Md_counts 101 = .ok (.aload_n 0, 1) := by decide +kernel
theorem d_Md_counts_102 : decode b_Md_counts 102 = .ok (.getfield 56, 3) := by decide +kernel
theorem d_Md_counts_105 : decode b_Md_counts 105 = .ok (.iload_n 1, 1) := by decide +kernel
theorem d_Md_counts_106 : decode b_Md_counts 106 = .ok (.iaload, 1) := by decide +kernel
theorem d_Md_counts_107 : decode b_Md_counts 107 = .ok (.iconst 3, 1) := by decide +kernel
theorem d_Md_counts_108 : decode b_Md_counts 108 = .ok (.if_icmp .le 5, 3) := by decide +kernel
theorem d_Md_counts_111 : decode b_Md_counts 111 = .ok (.iconst 0, 1) := by decide +kernel
theorem d_Md_counts_112 : decode b_Md_counts 112 = .ok (.ireturn, 1) := by decide +kernel
theorem d_Md_counts_113 : decode b_Md_counts 113 = .ok (.iconst 4, 1) := by decide +kernel
theorem d_Md_counts_114 : decode b_Md_counts 114 = .ok (.iload_n 1, 1) := by decide +kernel
theorem d_Md_counts_115 : decode b_Md_counts 115 = .ok (.imul, 1) := by decide +kernel
theorem d_Md_counts_116 : decode b_Md_counts 116 = .ok (.aload_n 0, 1) := by decide +kernel
theorem d_Md_counts_117 : decode b_Md_counts 117 = .ok (.getfield 56, 3) := by decide +kernel
theorem d_Md_counts_120 : decode b_Md_counts 120 = .ok (.iload_n 1, 1) := by decide +kernel
theorem d_Md_counts_121 : decode b_Md_counts 121 = .ok (.iaload, 1) := by decide +kernel
theorem d_Md_counts_122 : decode b_Md_counts 122 = .ok (.iadd, 1) := by decide +kernel
theorem d_Md_counts_123 : decode b_Md_counts 123 = .ok (.istore 6, 2) := by decide +kernel
theorem d_Md_counts_125 : decode b_Md_counts 125 = .ok (.aload_n 0, 1) := by decide +kernel
theorem d_Md_counts_126 : decode b_Md_counts 126 = .ok (.getfield 59, 3) := by decide +kernel
theorem d_Md_counts_129 : decode b_Md_counts 129 = .ok (.iload 6, 2) := by decide +kernel
theorem d_Md_counts_131 : decode b_Md_counts 131 = .ok (.aload_n 0, 1) := by decide +kernel
theorem d_Md_counts_132 : decode b_Md_counts 132 = .ok (.getfield 80, 3) := by decide +kernel
theorem d_Md_counts_135 : decode b_Md_counts 135 = .ok (.sipush 441, 3) := by decide +kernel
theorem d_Md_counts_138 : decode b_Md_counts 138 = .ok (.iaload, 1) := by decide +kernel
theorem d_Md_counts_139 : decode b_Md_counts 139 = .ok (.iastore, 1) := by decide +kernel
theorem d_Md_counts_140 : decode b_Md_counts 140 = .ok (.aload_n 0, 1) := by decide +kernel
theorem d_Md_counts_141 : decode b_Md_counts 141 = .ok (.getfield 65, 3) := by decide +kernel
theorem d_Md_counts_144 : decode b_Md_counts 144 = .ok (.iload 6, 2) := by decide +kernel
theorem d_Md_counts_146 : decode b_Md_counts 146 = .ok (.aload_n 0, 1) := by decide +kernel
theorem d_Md_counts_147 : decode b_Md_counts 147 = .ok (.getfield 80, 3) := by decide +kernel
theorem d_Md_counts_150 : decode b_Md_counts 150 = .ok (.sipush 445, 3) := by decide +kernel
theorem d_Md_counts_153 : decode b_Md_counts 153 = .ok (.iaload, 1) := by decide +kernel
theorem d_Md_counts_154 : decode b_Md_counts 154 = .ok (.iastore, 1) := by decide +kernel
theorem d_Md_counts_155 : decode b_Md_counts 155 = .ok (.aload_n 0, 1) := by decide +kernel
theorem d_Md_counts_156 : decode b_Md_counts 156 = .ok (.getfield 68, 3) := by decide +kernel
theorem d_Md_counts_159 : decode b_Md_counts 159 = .ok (.iload 6, 2) := by decide +kernel
theorem d_Md_counts_161 : decode b_Md_counts 161 = .ok (.aload_n 0, 1) := by decide +kernel
theorem d_Md_counts_162 : decode b_Md_counts 162 = .ok (.getfield 80, 3) := by decide +kernel
theorem d_Md_counts_165 : decode b_Md_counts 165 = .ok (.sipush 446, 3) := by decide +kernel
theorem d_Md_counts_168 : decode b_Md_counts 168 = .ok (.iaload, 1) := by decide +kernel
theorem d_Md_counts_169 : decode b_Md_counts 169 = .ok (.iastore, 1) := by decide +kernel
theorem d_Md_counts_170 : decode b_Md_counts 170 = .ok (.aload_n 0, 1) := by decide +kernel
theorem d_Md_counts_171 : decode b_Md_counts 171 = .ok (.getfield 71, 3) := by decide +kernel
theorem d_Md_counts_174 : decode b_Md_counts 174 = .ok (.iload 6, 2) := by decide +kernel
theorem d_Md_counts_176 : decode b_Md_counts 176 = .ok (.aload_n 0, 1) := by decide +kernel
theorem d_Md_counts_177 : decode b_Md_counts 177 = .ok (.getfield 80, 3) := by decide +kernel
theorem d_Md_counts_180 : decode b_Md_counts 180 = .ok (.sipush 447, 3) := by decide +kernel
theorem d_Md_counts_183 : decode b_Md_counts 183 = .ok (.iaload, 1) := by decide +kernel
theorem d_Md_counts_184 : decode b_Md_counts 184 = .ok (.iastore, 1) := by decide +kernel
theorem d_Md_counts_185 : decode b_Md_counts 185 = .ok (.aload_n 0, 1) := by decide +kernel
theorem d_Md_counts_186 : decode b_Md_counts 186 = .ok (.getfield 74, 3) := by decide +kernel
theorem d_Md_counts_189 : decode b_Md_counts 189 = .ok (.iload 6, 2) := by decide +kernel
theorem d_Md_counts_191 : decode b_Md_counts 191 = .ok (.aload_n 0, 1) := by decide +kernel
theorem d_Md_counts_192 : decode b_Md_counts 192 = .ok (.getfield 80, 3) := by decide +kernel
theorem d_Md_counts_195 : decode b_Md_counts 195 = .ok (.sipush 448, 3) := by decide +kernel
theorem d_Md_counts_198 : decode b_Md_counts 198 = .ok (.iaload, 1) := by decide +kernel
theorem d_Md_counts_199 : decode b_Md_counts 199 = .ok (.iastore, 1) := by decide +kernel
theorem d_Md_counts_200 : decode b_Md_counts 200 = .ok (.aload_n 0, 1) := by decide +kernel
theorem d_Md_counts_201 : decode b_Md_counts 201 = .ok (.getfield 62, 3) := by decide +kernel
theorem d_Md_counts_204 : decode b_Md_counts 204 = .ok (.iload 6, 2) := by decide +kernel
theorem d_Md_counts_206 : decode b_Md_counts 206 = .ok (.aload_n 0, 1) := by decide +kernel
theorem d_Md_counts_207 : decode b_Md_counts 207 = .ok (.getfield 80, 3) := by decide +kernel
theorem d_Md_counts_210 : decode b_Md_counts 210 = .ok (.sipush 449, 3) := by decide +kernel
theorem d_Md_counts_213 : decode b_Md_counts 213 = .ok (.iaload, 1) := by decide +kernel
theorem d_Md_counts_214 : decode b_Md_counts 214 = .ok (.iastore, 1) := by decide +kernel
theorem d_Md_counts_215 : decode b_Md_counts 215 = .ok (.aload_n 0, 1) := by decide +kernel
theorem d_Md_counts_216 : decode b_Md_counts 216 = .ok (.getfield 77, 3) := by decide +kernel
theorem d_Md_counts_219 : decode b_Md_counts 219 = .ok (.iload 6, 2) := by decide +kernel
theorem d_Md_counts_221 : decode b_Md_counts 221 = .ok (.aload_n 0, 1) := by decide +kernel
theorem d_Md_counts_222 : decode b_Md_counts 222 = .ok (.getfield 80, 3) := by decide +kernel
theorem d_Md_counts_225 : decode b_Md_counts 225 = .ok (.sipush 450, 3) := by decide +kernel
theorem d_Md_counts_228 : decode b_Md_counts 228 = .ok (.iaload, 1) := by decide +kernel
theorem d_Md_counts_229 : decode b_Md_counts 229 = .ok (.iastore, 1) := by decide +kernel
theorem d_Md_counts_230 : decode b_Md_counts 230 = .ok (.aload_n 0, 1) := by decide +kernel
theorem d_Md_counts_231 : decode b_Md_counts 231 = .ok (.getfield 56, 3) := by decide +kernel
theorem d_Md_counts_234 : decode b_Md_counts 234 = .ok (.iload_n 1, 1) := by decide +kernel
theorem d_Md_counts_235 : decode b_Md_counts 235 = .ok (.dup2, 1) := by decide +kernel
theorem d_Md_counts_236 : decode b_Md_counts 236 = .ok (.iaload, 1) := by decide +kernel
theorem d_Md_counts_237 : decode b_Md_counts 237 = .ok (.iconst 1, 1) := by decide +kernel
theorem d_Md_counts_238 : decode b_Md_counts 238 = .ok (.iadd, 1) := by decide +kernel
theorem d_Md_counts_239 : decode b_Md_counts 239 = .ok (.iastore, 1) := by decide +kernel
theorem d_Md_counts_240 : decode b_Md_counts 240 = .ok (.iconst 1, 1) := by decide +kernel
theorem d_Md_counts_241 : decode b_Md_counts 241 = .ok (.ireturn, 1) := by decide +kernel
theorem d_Md_finish_0 : decode b_Md_finish 0 = .ok (.bipush 30, 2) := by decide +kernel
theorem d_Md_finish_2 : decode b_Md_finish 2 = .ok (.iload_n 1, 1) := by decide +kernel
theorem d_Md_finish_3 : decode b_Md_finish 3 = .ok (.imul, 1) := by decide +kernel
theorem d_Md_finish_4 : decode b_Md_finish 4 = .ok (.iload_n 2, 1) := by decide +kernel
theorem d_Md_finish_5 : decode b_Md_finish 5 = .ok (.iadd, 1) := by decide +kernel
theorem d_Md_finish_6 : decode b_Md_finish 6 = .ok (.istore 5, 2) := by decide +kernel
theorem d_Md_finish_8 : decode b_Md_finish 8 = .ok (.aload_n 0, 1) := by decide +kernel
theorem d_Md_finish_9 : decode b_Md_finish 9 = .ok (.getfield 20, 3) := by decide +kernel
theorem d_Md_finish_12 : decode b_Md_finish 12 = .ok (.iload 5, 2) := by decide +kernel
theorem d_Md_finish_14 : decode b_Md_finish 14 = .ok (.iconst 3, 1) := by decide +kernel
theorem d_Md_finish_15 : decode b_Md_finish 15 = .ok (.iastore, 1) := by decide +kernel
theorem d_Md_finish_16 : decode b_Md_finish 16 = .ok (.aload_n 0, 1) := by decide +kernel
theorem d_Md_finish_17 : decode b_Md_finish 17 = .ok (.getfield 29, 3) := by decide +kernel
theorem d_Md_finish_20 : decode b_Md_finish 20 = .ok (.iload 5, 2) := by decide +kernel
theorem d_Md_finish_22 : decode b_Md_finish 22 = .ok (.iload_n 3, 1) := by decide +kernel
theorem d_Md_finish_23 : decode b_Md_finish 23 = .ok (.iastore, 1) := by decide +kernel
theorem d_Md_finish_24 : decode b_Md_finish 24 = .ok (.aload_n 0, 1) := by decide +kernel
theorem d_Md_finish_25 : decode b_Md_finish 25 = .ok (.getfield 32, 3) := by decide +kernel
theorem d_Md_finish_28 : decode b_Md_finish 28 = .ok (.iload 5, 2) := by decide +kernel
theorem d_Md_finish_30 : decode b_Md_finish 30 = .ok (.iload 4, 2) := by decide +kernel
theorem d_Md_finish_32 : decode b_Md_finish 32 = .ok (.iastore, 1) := by decide +kernel
theorem d_Md_finish_33 : decode b_Md_finish 33 = .ok (.aload_n 0, 1) := by decide +kernel
theorem d_Md_finish_34 : decode b_Md_finish 34 = .ok (.iconst 4, 1) := by decide +kernel
theorem d_Md_finish_35 : decode b_Md_finish 35 = .ok (.iload_n 1, 1) := by decide +kernel
theorem d_Md_finish_36 : decode b_Md_finish 36 = .ok (.iload_n 2, 1) := by decide +kernel
theorem d_Md_finish_37 : decode b_Md_finish 37 = .ok (.iconst 0, 1) := by decide +kernel
theorem d_Md_finish_38 : decode b_Md_finish 38 = .ok (.invokevirtual 161, 3) := by decide +kernel
theorem d_Md_finish_41 : decode b_Md_finish 41 = .ok (.return_, 1) := by decide +kernel
theorem d_Md_start_0 : decode b_Md_start 0 = .ok (.aload_n 0, 1) := by decide +kernel
theorem d_Md_start_1 : decode b_Md_start 1 = .ok (.getfield 47, 3) := by decide +kernel
theorem d_Md_start_4 : decode b_Md_start 4 = .ok (.iload_n 1, 1) := by decide +kernel
theorem d_Md_start_5 : decode b_Md_start 5 = .ok (.iconst 1, 1) := by decide +kernel
theorem d_Md_start_6 : decode b_Md_start 6 = .ok (.bastore, 1) := by decide +kernel
theorem d_Md_start_7 : decode b_Md_start 7 = .ok (.aload_n 0, 1) := by decide +kernel
theorem d_Md_start_8 : decode b_Md_start 8 = .ok (.getfield 50, 3) := by decide +kernel
theorem d_Md_start_11 : decode b_Md_start 11 = .ok (.iload_n 1, 1) := by decide +kernel
theorem d_Md_start_12 : decode b_Md_start 12 = .ok (.iload_n 2, 1) := by decide +kernel
theorem d_Md_start_13 : decode b_Md_start 13 = .ok (.iastore, 1) := by decide +kernel
theorem d_Md_start_14 : decode b_Md_start 14 = .ok (.aload_n 0, 1) := by decide +kernel
theorem d_Md_start_15 : decode b_Md_start 15 = .ok (.getfield 53, 3) := by decide +kernel
theorem d_Md_start_18 : decode b_Md_start 18 = .ok (.iload_n 1, 1) := by decide +kernel
theorem d_Md_start_19 : decode b_Md_start 19 = .ok (.iload_n 3, 1) := by decide +kernel
theorem d_Md_start_20 : decode b_Md_start 20 = .ok (.iastore, 1) := by decide +kernel
theorem d_Md_start_21 : decode b_Md_start 21 = .ok (.aload_n 0, 1) := by decide +kernel
theorem d_Md_start_22 : decode b_Md_start 22 = .ok (.getfield 56, 3) := by decide +kernel
theorem d_Md_start_25 : decode b_Md_start 25 = .ok (.iload_n 1, 1) := by decide +kernel
theorem d_Md_start_26 : decode b_Md_start 26 = .ok (.iconst 0, 1) := by decide +kernel
theorem d_Md_start_27 : decode b_Md_start 27 = .ok (.iastore, 1) := by decide +kernel
theorem d_Md_start_28 : decode b_Md_start 28 = .ok (.return_, 1) := by decide +kernel
theorem d_Md_agree_0 : decode b_Md_agree 0 = .ok (.bipush 30, 2) := by decide +kernel
theorem d_Md_agree_2 : decode b_Md_agree 2 = .ok (.iload_n 1, 1) := by decide +kernel
theorem d_Md_agree_3 : decode b_Md_agree 3 = .ok (.imul, 1) := by decide +kernel
theorem d_Md_agree_4 : decode b_Md_agree 4 = .ok (.iload_n 2, 1) := by decide +kernel
theorem d_Md_agree_5 : decode b_Md_agree 5 = .ok (.iadd, 1) := by decide +kernel
theorem d_Md_agree_6 : decode b_Md_agree 6 = .ok (.istore 7, 2) := by decide +kernel
theorem d_Md_agree_8 : decode b_Md_agree 8 = .ok (.aload_n 0, 1) := by decide +kernel
theorem d_Md_agree_9 : decode b_Md_agree 9 = .ok (.iload 7, 2) := by decide +kernel
theorem d_Md_agree_11 : decode b_Md_agree 11 = .ok (.iconst 2, 1) := by decide +kernel
theorem d_Md_agree_12 : decode b_Md_agree 12 = .ok (.iload_n 3, 1) := by decide +kernel
theorem d_Md_agree_13 : decode b_Md_agree 13 = .ok (.iload 4, 2) := by decide +kernel
theorem d_Md_agree_15 : decode b_Md_agree 15 = .ok (.invokevirtual 104, 3) := by decide +kernel
theorem d_Md_agree_18 : decode b_Md_agree 18 = .ok (.aload_n 0, 1) := by decide +kernel
theorem d_Md_agree_19 : decode b_Md_agree 19 = .ok (.getfield 29, 3) := by decide +kernel
theorem d_Md_agree_22 : decode b_Md_agree 22 = .ok (.iload 7, 2) := by decide +kernel
theorem d_Md_agree_24 : decode b_Md_agree 24 = .ok (.iload 5, 2) := by decide +kernel
theorem d_Md_agree_26 : decode b_Md_agree 26 = .ok (.iastore, 1) := by decide +kernel
theorem d_Md_agree_27 : decode b_Md_agree 27 = .ok (.aload_n 0, 1) := by decide +kernel
theorem d_Md_agree_28 : decode b_Md_agree 28 = .ok (.getfield 32, 3) := by decide +kernel
theorem d_Md_agree_31 : decode b_Md_agree 31 = .ok (.iload 7, 2) := by decide +kernel
theorem d_Md_agree_33 : decode b_Md_agree 33 = .ok (.iload 6, 2) := by decide +kernel
theorem d_Md_agree_35 : decode b_Md_agree 35 = .ok (.iastore, 1) := by decide +kernel
theorem d_Md_agree_36 : decode b_Md_agree 36 = .ok (.aload_n 0, 1) := by decide +kernel
theorem d_Md_agree_37 : decode b_Md_agree 37 = .ok (.getfield 38, 3) := by decide +kernel
theorem d_Md_agree_40 : decode b_Md_agree 40 = .ok (.iload 7, 2) := by decide +kernel
theorem d_Md_agree_42 : decode b_Md_agree 42 = .ok (.aload_n 0, 1) := by decide +kernel
theorem d_Md_agree_43 : decode b_Md_agree 43 = .ok (.getfield 53, 3) := by decide +kernel
theorem d_Md_agree_46 : decode b_Md_agree 46 = .ok (.iload 7, 2) := by decide +kernel
theorem d_Md_agree_48 : decode b_Md_agree 48 = .ok (.iaload, 1) := by decide +kernel
theorem d_Md_agree_49 : decode b_Md_agree 49 = .ok (.iastore, 1) := by decide +kernel
theorem d_Md_agree_50 : decode b_Md_agree 50 = .ok (.aload_n 0, 1) := by decide +kernel
theorem d_Md_agree_51 : decode b_Md_agree 51 = .ok (.iload 7, 2) := by decide +kernel
theorem d_Md_agree_53 : decode b_Md_agree 53 = .ok (.iconst 2, 1) := by decide +kernel
theorem d_Md_agree_54 : decode b_Md_agree 54 = .ok (.aload_n 0, 1) := by decide +kernel
theorem d_Md_agree_55 : decode b_Md_agree 55 = .ok (.getfield 53, 3) := by decide +kernel
theorem d_Md_agree_58 : decode b_Md_agree 58 = .ok (.iload 7, 2) := by decide +kernel
theorem d_Md_agree_60 : decode b_Md_agree 60 = .ok (.iaload, 1) := by decide +kernel
theorem d_Md_agree_61 : decode b_Md_agree 61 = .ok (.invokevirtual 158, 3) := by decide +kernel
theorem d_Md_agree_64 : decode b_Md_agree 64 = .ok (.aload_n 0, 1) := by decide +kernel
theorem d_Md_agree_65 : decode b_Md_agree 65 = .ok (.iconst 2, 1) := by decide +kernel
theorem d_Md_agree_66 : decode b_Md_agree 66 = .ok (.iload_n 1, 1) := by decide +kernel
theorem d_Md_agree_67 : decode b_Md_agree 67 = .ok (.iload_n 2, 1) := by decide +kernel
theorem d_Md_agree_68 : decode b_Md_agree 68 = .ok (.aload_n 0, 1) := by decide +kernel
theorem d_Md_agree_69 : decode b_Md_agree 69 = .ok (.getfield 53, 3) := by decide +kernel
theorem d_Md_agree_72 : decode b_Md_agree 72 = .ok (.iload 7, 2) := by decide +kernel
theorem d_Md_agree_74 : decode b_Md_agree 74 = .ok (.iaload, 1) := by decide +kernel
theorem d_Md_agree_75 : decode b_Md_agree 75 = .ok (.invokevirtual 161, 3) := by decide +kernel
theorem d_Md_agree_78 : decode b_Md_agree 78 = .ok (.return_, 1) := by decide +kernel
theorem d_Md_afterPreaccept_0 : decode b_Md_afterPreaccept 0 = .ok (.bipush 30, 2) := by decide +kernel
theorem d_Md_afterPreaccept_2 : decode b_Md_afterPreaccept 2 = .ok (.iload_n 1, 1) := by decide +kernel
theorem d_Md_afterPreaccept_3 : decode b_Md_afterPreaccept 3 = .ok (.imul, 1) := by decide +kernel
theorem d_Md_afterPreaccept_4 : decode b_Md_afterPreaccept 4 = .ok (.iload_n 2, 1) := by decide +kernel
theorem d_Md_afterPreaccept_5 : decode b_Md_afterPreaccept 5 = .ok (.iadd, 1) := by decide +kernel
theorem d_Md_afterPreaccept_6 : decode b_Md_afterPreaccept 6 = .ok (.istore_n 3, 1) := by decide +kernel
theorem d_Md_afterPreaccept_7 : decode b_Md_afterPreaccept 7 = .ok (.iconst 1, 1) := by decide +kernel
theorem d_Md_afterPreaccept_8 : decode b_Md_afterPreaccept 8 = .ok (.istore 4, 2) := by decide +kernel
theorem d_Md_afterPreaccept_10 : decode b_Md_afterPreaccept 10 = .ok (.aload_n 0, 1) := by decide +kernel
theorem d_Md_afterPreaccept_11 : decode b_Md_afterPreaccept 11 = .ok (.getfield 71, 3) := by decide +kernel
theorem d_Md_afterPreaccept_14 : decode b_Md_afterPreaccept 14 = .ok (.iconst 4, 1) := by decide +kernel
theorem d_Md_afterPreaccept_15 : decode b_Md_afterPreaccept 15 = .ok (.iload_n 3, 1) := by decide +kernel
theorem d_Md_afterPreaccept_16 : decode b_Md_afterPreaccept 16 = .ok (.imul, 1) := by decide +kernel
theorem d_Md_afterPreaccept_17 : decode b_Md_afterPreaccept 17 = .ok (.iaload, 1) := by decide +kernel
theorem d_Md_afterPreaccept_18 : decode b_Md_afterPreaccept 18 = .ok (.istore 5, 2) := by decide +kernel
theorem d_Md_afterPreaccept_20 : decode b_Md_afterPreaccept 20 = .ok (.iconst 0, 1) := by decide +kernel
theorem d_Md_afterPreaccept_21 : decode b_Md_afterPreaccept 21 = .ok (.istore 6, 2) := by decide +kernel
theorem d_Md_afterPreaccept_23 : decode b_Md_afterPreaccept 23 = .ok (.iconst 4, 1) := by decide +kernel
theorem d_Md_afterPreaccept_24 : decode b_Md_afterPreaccept 24 = .ok (.iload_n 3, 1) := by decide +kernel
theorem d_Md_afterPreaccept_25 : decode b_Md_afterPreaccept 25 = .ok (.imul, 1) := by decide +kernel
theorem d_Md_afterPreaccept_26 : decode b_Md_afterPreaccept 26 = .ok (.istore 7, 2) := by decide +kernel
theorem d_Md_afterPreaccept_28 : decode b_Md_afterPreaccept 28 = .ok (.iload 7, 2) := by decide +kernel
theorem d_Md_afterPreaccept_30 : decode b_Md_afterPreaccept 30 = .ok (.iconst 4, 1) := by decide +kernel
theorem d_Md_afterPreaccept_31 : decode b_Md_afterPreaccept 31 = .ok (.iload_n 3, 1) := by decide +kernel
theorem d_Md_afterPreaccept_32 : decode b_Md_afterPreaccept 32 = .ok (.imul, 1) := by decide +kernel
theorem d_Md_afterPreaccept_33 : decode b_Md_afterPreaccept 33 = .ok (.aload_n 0, 1) := by decide +kernel
theorem d_Md_afterPreaccept_34 : decode b_Md_afterPreaccept 34 = .ok (.getfield 56, 3) := by decide +kernel
theorem d_Md_afterPreaccept_37 : decode b_Md_afterPreaccept 37 = .ok (.iload_n 3, 1) := by decide +kernel
theorem d_Md_afterPreaccept_38 : decode b_Md_afterPreaccept 38 = .ok (.iaload, 1) := by decide +kernel
theorem d_Md_afterPreaccept_39 : decode b_Md_afterPreaccept 39 = .ok (.iadd, 1) := by decide +kernel
theorem d_Md_afterPreaccept_40 : decode b_Md_afterPreaccept 40 = .ok (.if_icmp .ge 95, 3) := by decide +kernel
theorem d_Md_afterPreaccept_43 : decode b_Md_afterPreaccept 43 = .ok (.iload 4, 2) := by decide +kernel
theorem d_Md_afterPreaccept_45 : decode b_Md_afterPreaccept 45 = .ok (.ifCond .eq 43, 3) := by decide +kernel
theorem d_Md_afterPreaccept_48 : decode b_Md_afterPreaccept 48 = .ok (.aload_n 0, 1) := by decide +kernel
theorem d_Md_afterPreaccept_49 : decode b_Md_afterPreaccept 49 = .ok (.getfield 71, 3) := by decide +kernel
theorem d_Md_afterPreaccept_52 : decode b_Md_afterPreaccept 52 = .ok (.iload 7, 2) := by decide +kernel
theorem d_Md_afterPreaccept_54 : decode b_Md_afterPreaccept 54 = .ok (.iaload, 1) := by decide +kernel
theorem d_Md_afterPreaccept_55 : decode b_Md_afterPreaccept 55 = .ok (.aload_n 0, 1) := by decide +kernel
theorem d_Md_afterPreaccept_56 : decode b_Md_afterPreaccept 56 = .ok (.getfield 71, 3) := by decide +kernel
theorem d_Md_afterPreaccept_59 : decode b_Md_afterPreaccept 59 = .ok (.iconst 4, 1) := by decide +kernel
theorem d_Md_afterPreaccept_60 : decode b_Md_afterPreaccept 60 = .ok (.iload_n 3, 1) := by decide +kernel
theorem d_Md_afterPreaccept_61 : decode b_Md_afterPreaccept 61 = .ok (.imul, 1) := by decide +kernel
theorem d_Md_afterPreaccept_62 : decode b_Md_afterPreaccept 62 = .ok (.iaload, 1) := by decide +kernel
theorem d_Md_afterPreaccept_63 : decode b_Md_afterPreaccept 63 = .ok (.if_icmp .ne 25, 3) := by decide +kernel
theorem d_Md_afterPreaccept_66 : decode b_Md_afterPreaccept 66 = .ok (.aload_n 0, 1) := by decide +kernel
theorem d_Md_afterPreaccept_67 : decode b_Md_afterPreaccept 67 = .ok (.getfield 74, 3) := by decide +kernel
theorem d_Md_afterPreaccept_70 : decode b_Md_afterPreaccept 70 = .ok (.iload 7, 2) := by decide +kernel
theorem d_Md_afterPreaccept_72 : decode b_Md_afterPreaccept 72 = .ok (.iaload, 1) := by decide +kernel
theorem d_Md_afterPreaccept_73 : decode b_Md_afterPreaccept 73 = .ok (.aload_n 0, 1) := by decide +kernel
theorem d_Md_afterPreaccept_74 : decode b_Md_afterPreaccept 74 = .ok (.getfield 74, 3) := by decide +kernel
theorem d_Md_afterPreaccept_77 : decode b_Md_afterPreaccept 77 = .ok (.iconst 4, 1) := by decide +kernel
theorem d_Md_afterPreaccept_78 : decode b_Md_afterPreaccept 78 = .ok (.iload_n 3, 1) := by decide +kernel
theorem d_Md_afterPreaccept_79 : decode b_Md_afterPreaccept 79 = .ok (.imul, 1) := by decide +kernel
theorem d_Md_afterPreaccept_80 : decode b_Md_afterPreaccept 80 = .ok (.iaload, 1) := by decide +kernel
theorem d_Md_afterPreaccept_81 : decode b_Md_afterPreaccept 81 = .ok (.if_icmp .ne 7, 3) := by decide +kernel
theorem d_Md_afterPreaccept_84 : decode b_Md_afterPreaccept 84 = .ok (.iconst 1, 1) := by decide +kernel
theorem d_Md_afterPreaccept_85 : decode b_Md_afterPreaccept 85 = .ok (.goto 4, 3) := by decide +kernel
theorem d_Md_afterPreaccept_88 : decode b_Md_afterPreaccept 88 = .ok (.iconst 0, 1) := by decide +kernel
theorem d_Md_afterPreaccept_89 : decode b_Md_afterPreaccept 89 = .ok (.istore 4, 2) := by decide +kernel
theorem d_Md_afterPreaccept_91 : decode b_Md_afterPreaccept 91 = .ok (.aload_n 0, 1) := by decide +kernel
theorem d_Md_afterPreaccept_92 : decode b_Md_afterPreaccept 92 = .ok (.getfield 71, 3) := by decide +kernel
theorem d_Md_afterPreaccept_95 : decode b_Md_afterPreaccept 95 = .ok (.iload 7, 2) := by decide +kernel
theorem d_Md_afterPreaccept_97 : decode b_Md_afterPreaccept 97 = .ok (.iaload, 1) := by decide +kernel
theorem d_Md_afterPreaccept_98 : decode b_Md_afterPreaccept 98 = .ok (.iload 5, 2) := by decide +kernel
theorem d_Md_afterPreaccept_100 : decode b_Md_afterPreaccept 100 = .ok (.if_icmp .le 13, 3) := by decide +kernel
theorem d_Md_afterPreaccept_103 : decode b_Md_afterPreaccept 103 = .ok (.aload_n 0, 1) := by decide +kernel
theorem d_Md_afterPreaccept_104 : decode b_Md_afterPreaccept 104 = .ok (.getfield 71, 3) := by decide +kernel
theorem d_Md_afterPreaccept_107 : decode b_Md_afterPreaccept 107 = .ok (.iload 7, 2) := by decide +kernel
theorem d_Md_afterPreaccept_109 : decode b_Md_afterPreaccept 109 = .ok (.iaload, 1) := by decide +kernel
theorem d_Md_afterPreaccept_110 : decode b_Md_afterPreaccept 110 = .ok (.goto 5, 3) := by decide +kernel
theorem d_Md_afterPreaccept_113 : decode b_Md_afterPreaccept 113 = .ok (.iload 5, 2) := by decide +kernel
theorem d_Md_afterPreaccept_115 : decode b_Md_afterPreaccept 115 = .ok (.istore 5, 2) := by decide +kernel
theorem d_Md_afterPreaccept_117 : decode b_Md_afterPreaccept 117 = .ok (.iload 6, 2) := by decide +kernel
theorem d_Md_afterPreaccept_119 : decode b_Md_afterPreaccept 119 = .ok (.aload_n 0, 1) := by decide +kernel
theorem d_Md_afterPreaccept_120 : decode b_Md_afterPreaccept 120 = .ok (.getfield 74, 3) := by decide +kernel
theorem d_Md_afterPreaccept_123 : decode b_Md_afterPreaccept 123 = .ok (.iload 7, 2) := by decide +kernel
theorem d_Md_afterPreaccept_125 : decode b_Md_afterPreaccept 125 = .ok (.iaload, 1) := by decide +kernel
theorem d_Md_afterPreaccept_126 : decode b_Md_afterPreaccept 126 = .ok (.ior, 1) := by decide +kernel
theorem d_Md_afterPreaccept_127 : decode b_Md_afterPreaccept 127 = .ok (.istore 6, 2) := by decide +kernel
theorem d_Md_afterPreaccept_129 : decode b_Md_afterPreaccept 129 = .ok (.iinc 7 1, 3) := by decide +kernel
theorem d_Md_afterPreaccept_132 : decode b_Md_afterPreaccept 132 = .ok (.goto (-104), 3) := by decide +kernel
theorem d_Md_afterPreaccept_135 : decode b_Md_afterPreaccept 135 = .ok (.aload_n 0, 1) := by decide +kernel
theorem d_Md_afterPreaccept_136 : decode b_Md_afterPreaccept 136 = .ok (.getfield 50, 3) := by decide +kernel
theorem d_Md_afterPreaccept_139 : decode b_Md_afterPreaccept 139 = .ok (.iload_n 3, 1) := by decide +kernel
theorem d_Md_afterPreaccept_140 : decode b_Md_afterPreaccept 140 = .ok (.iaload, 1) := by decide +kernel
theorem d_Md_afterPreaccept_141 : decode b_Md_afterPreaccept 141 = .ok (.ifCond .ne 12, 3) := by decide +kernel
theorem d_Md_afterPreaccept_144 : decode b_Md_afterPreaccept 144 = .ok (.iload 4, 2) := by decide +kernel
theorem d_Md_afterPreaccept_146 : decode b_Md_afterPreaccept 146 = .ok (.ifCond .eq 7, 3) := by decide +kernel
theorem d_Md_afterPreaccept_149 : decode b_Md_afterPreaccept 149 = .ok (.iconst 1, 1) := by decide +kernel
theorem d_Md_afterPreaccept_150 : decode b_Md_afterPreaccept 150 = .ok (.goto 4, 3) := by decide +kernel
theorem d_Md_afterPreaccept_153 : decode b_Md_afterPreaccept 153 = .ok (.iconst 0, 1) := by decide +kernel
theorem d_Md_afterPreaccept_154 : decode b_Md_afterPreaccept 154 = .ok (.istore 7, 2) := by decide +kernel
theorem d_Md_afterPreaccept_156 : decode b_Md_afterPreaccept 156 = .ok (.iload 7, 2) := by decide +kernel
theorem d_Md_afterPreaccept_158 : decode b_Md_afterPreaccept 158 = .ok (.ifCond .eq 31, 3) := by decide +kernel
theorem d_Md_afterPreaccept_161 : decode b_Md_afterPreaccept 161 = .ok (.aload_n 0, 1) := by decide +kernel
theorem d_Md_afterPreaccept_162 : decode b_Md_afterPreaccept 162 = .ok (.getfield 56, 3) := by decide +kernel
theorem d_Md_afterPreaccept_165 : decode b_Md_afterPreaccept 165 = .ok (.iload_n 3, 1) := by decide +kernel
theorem d_Md_afterPreaccept_166 : decode b_Md_afterPreaccept 166 = .ok (.iaload, 1) := by decide +kernel
theorem d_Md_afterPreaccept_167 : decode b_Md_afterPreaccept 167 = .ok (.aload_n 0, 1) := by decide +kernel
theorem d_Md_afterPreaccept_168 : decode b_Md_afterPreaccept 168 = .ok (.getfield 86, 3) := by decide +kernel
theorem d_Md_afterPreaccept_171 : decode b_Md_afterPreaccept 171 = .ok (.iconst 2, 1) := by decide +kernel
theorem d_Md_afterPreaccept_172 : decode b_Md_afterPreaccept 172 = .ok (.isub, 1) := by decide +kernel
theorem d_Md_afterPreaccept_173 : decode b_Md_afterPreaccept 173 = .ok (.if_icmp .ne 16, 3) := by decide +kernel
theorem d_Md_afterPreaccept_176 : decode b_Md_afterPreaccept 176 = .ok (.aload_n 0, 1) := by decide +kernel
theorem d_Md_afterPreaccept_177 : decode b_Md_afterPreaccept 177 = .ok (.iload_n 1, 1) := by decide +kernel
theorem d_Md_afterPreaccept_178 : decode b_Md_afterPreaccept 178 = .ok (.iload_n 2, 1) := by decide +kernel
theorem d_Md_afterPreaccept_179 : decode b_Md_afterPreaccept 179 = .ok (.iload 5, 2) := by decide +kernel
theorem d_Md_afterPreaccept_181 : decode b_Md_afterPreaccept 181 = .ok (.iload 6, 2) := by decide +kernel
theorem d_Md_afterPreaccept_183 : decode b_Md_afterPreaccept 183 = .ok (.invokevirtual 145, 3) := by decide +kernel
theorem d_Md_afterPreaccept_186 : decode b_Md_afterPreaccept 186 = .ok (.goto 43, 3) := by decide +kernel
theorem d_Md_afterPreaccept_189 : decode b_Md_afterPreaccept 189 = .ok (.iload 7, 2) := by decide +kernel
theorem d_Md_afterPreaccept_191 : decode b_Md_afterPreaccept 191 = .ok (.ifCond .ne 38, 3) := by decide +kernel
theorem d_Md_afterPreaccept_194 : decode b_Md_afterPreaccept 194 = .ok (.aload_n 0, 1) := by decide +kernel
theorem d_Md_afterPreaccept_195 : decode b_Md_afterPreaccept 195 = .ok (.getfield 56, 3) := by decide +kernel
theorem d_Md_afterPreaccept_198 : decode b_Md_afterPreaccept 198 = .ok (.iload_n 3, 1) := by decide +kernel
theorem d_Md_afterPreaccept_199 : decode b_Md_afterPreaccept 199 = .ok (.iaload, 1) := by decide +kernel
theorem d_Md_afterPreaccept_200 : decode b_Md_afterPreaccept 200 = .ok (.aload_n 0, 1) := by decide +kernel
theorem d_Md_afterPreaccept_201 : decode b_Md_afterPreaccept 201 = .ok (.getfield 90, 3) := by decide +kernel
theorem d_Md_afterPreaccept_204 : decode b_Md_afterPreaccept 204 = .ok (.if_icmp .lt 25, 3) := by decide +kernel
theorem d_Md_afterPreaccept_207 : decode b_Md_afterPreaccept 207 = .ok (.aload_n 0, 1) := by decide +kernel
theorem d_Md_afterPreaccept_208 : decode b_Md_afterPreaccept 208 = .ok (.iload_n 1, 1) := by decide +kernel
theorem d_Md_afterPreaccept_209 : decode b_Md_afterPreaccept 209 = .ok (.iload_n 2, 1) := by decide +kernel
theorem d_Md_afterPreaccept_210 : decode b_Md_afterPreaccept 210 = .ok (.aload_n 0, 1) := by decide +kernel
theorem d_Md_afterPreaccept_211 : decode b_Md_afterPreaccept 211 = .ok (.getfield 23, 3) := by decide +kernel
theorem d_Md_afterPreaccept_214 : decode b_Md_afterPreaccept 214 = .ok (.iload_n 3, 1) := by decide +kernel
theorem d_Md_afterPreaccept_215 : decode b_Md_afterPreaccept 215 = .ok (.iaload, 1) := by decide +kernel
theorem d_Md_afterPreaccept_216 : decode b_Md_afterPreaccept 216 = .ok (.aload_n 0, 1) := by decide +kernel
theorem d_Md_afterPreaccept_217 : decode b_Md_afterPreaccept 217 = .ok (.getfield 26, 3) := by decide +kernel
theorem d_Md_afterPreaccept_220 : decode b_Md_afterPreaccept 220 = .ok (.iload_n 3, 1) := by decide +kernel
theorem d_Md_afterPreaccept_221 : decode b_Md_afterPreaccept 221 = .ok (.iaload, 1) := by decide +kernel
theorem d_Md_afterPreaccept_222 : decode b_Md_afterPreaccept 222 = .ok (.iload 5, 2) := by decide +kernel
theorem d_Md_afterPreaccept_224 : decode b_Md_afterPreaccept 224 = .ok (.iload 6, 2) := by decide +kernel
theorem d_Md_afterPreaccept_226 : decode b_Md_afterPreaccept 226 = .ok (.invokevirtual 155, 3) := by decide +kernel
theorem d_Md_afterPreaccept_229 : decode b_Md_afterPreaccept 229 = .ok (.return_, 1) := by decide +kernel
theorem d_Md_accepted_0 : decode b_Md_accepted 0 = .ok (.iconst (-1), 1) := by decide +kernel
theorem d_Md_accepted_1 : decode b_Md_accepted 1 = .ok (.istore_n 3, 1) := by decide +kernel
theorem d_Md_accepted_2 : decode b_Md_accepted 2 = .ok (.iload_n 1, 1) := by decide +kernel
theorem d_Md_accepted_3 : decode b_Md_accepted 3 = .ok (.istore 4, 2) := by decide +kernel
theorem d_Md_accepted_5 : decode b_Md_accepted 5 = .ok (.iload 4, 2) := by decide +kernel
theorem d_Md_accepted_7 : decode b_Md_accepted 7 = .ok (.iload_n 1, 1) := by decide +kernel
theorem d_Md_accepted_8 : decode b_Md_accepted 8 = .ok (.iload_n 2, 1) := by decide +kernel
theorem d_Md_accepted_9 : decode b_Md_accepted 9 = .ok (.iadd, 1) := by decide +kernel
theorem d_Md_accepted_10 : decode b_Md_accepted 10 = .ok (.if_icmp .ge 43, 3) := by decide +kernel
theorem d_Md_accepted_13 : decode b_Md_accepted 13 = .ok (.aload_n 0, 1) := by decide +kernel
theorem d_Md_accepted_14 : decode b_Md_accepted 14 = .ok (.getfield 62, 3) := by decide +kernel
theorem d_Md_accepted_17 : decode b_Md_accepted 17 = .ok (.iload 4, 2) := by decide +kernel
theorem d_Md_accepted_19 : decode b_Md_accepted 19 = .ok (.iaload, 1) := by decide +kernel
theorem d_Md_accepted_20 : decode b_Md_accepted 20 = .ok (.iconst 2, 1) := by decide +kernel
theorem d_Md_accepted_21 : decode b_Md_accepted 21 = .ok (.if_icmp .ne 26, 3) := by decide +kernel
theorem d_Md_accepted_24 : decode b_Md_accepted 24 = .ok (.iload_n 3, 1) := by decide +kernel
theorem d_Md_accepted_25 : decode b_Md_accepted 25 = .ok (.ifCond .lt 19, 3) := by decide +kernel
theorem d_Md_accepted_28 : decode b_Md_accepted 28 = .ok (.aload_n 0, 1) := by decide +kernel
theorem d_Md_accepted_29 : decode b_Md_accepted 29 = .ok (.getfield 77, 3) := by decide +kernel
theorem d_Md_accepted_32 : decode b_Md_accepted 32 = .ok (.iload 4, 2) := by decide +kernel
theorem d_Md_accepted_34 : decode b_Md_accepted 34 = .ok (.iaload, 1) := by decide +kernel
theorem d_Md_accepted_35 : decode b_Md_accepted 35 = .ok (.aload_n 0, 1) := by decide +kernel
theorem d_Md_accepted_36 : decode b_Md_accepted 36 = .ok (.getfield 77, 3) := by decide +kernel
theorem d_Md_accepted_39 : decode b_Md_accepted 39 = .ok (.iload_n 3, 1) := by decide +kernel
theorem d_Md_accepted_40 : decode b_Md_accepted 40 = .ok (.iaload, 1) := by decide +kernel
theorem d_Md_accepted_41 : decode b_Md_accepted 41 = .ok (.if_icmp .le 6, 3) := by decide +kernel
theorem d_Md_accepted_44 : decode b_Md_accepted 44 = .ok (.iload 4, 2) := by decide +kernel
theorem d_Md_accepted_46 : decode b_Md_accepted 46 = .ok (.istore_n 3, 1) := by decide +kernel
theorem d_Md_accepted_47 : decode b_Md_accepted 47 = .ok (.iinc 4 1, 3) := by decide +kernel
theorem d_Md_accepted_50 : decode b_Md_accepted 50 = .ok (.goto (-45), 3) := by decide +kernel
theorem d_Md_accepted_53 : decode b_Md_accepted 53 = .ok (.iload_n 3, 1) := by decide +kernel
theorem d_Md_accepted_54 : decode b_Md_accepted 54 = .ok (.ireturn, 1) := by decide +kernel
theorem d_Md_plain_0 : decode b_Md_plain 0 = .ok (.aload_n 0, 1) := by decide +kernel
theorem d_Md_plain_1 : decode b_Md_plain 1 = .ok (.getfield 62, 3) := by decide +kernel
theorem d_Md_plain_4 : decode b_Md_plain 4 = .ok (.iload_n 1, 1) := by decide +kernel
theorem d_Md_plain_5 : decode b_Md_plain 5 = .ok (.iaload, 1) := by decide +kernel
theorem d_Md_plain_6 : decode b_Md_plain 6 = .ok (.iconst 1, 1) := by decide +kernel
theorem d_Md_plain_7 : decode b_Md_plain 7 = .ok (.if_icmp .ne 29, 3) := by decide +kernel
theorem d_Md_plain_10 : decode b_Md_plain 10 = .ok (.aload_n 0, 1) := by decide +kernel
theorem d_Md_plain_11 : decode b_Md_plain 11 = .ok (.getfield 77, 3) := by decide +kernel
theorem d_Md_plain_14 : decode b_Md_plain 14 = .ok (.iload_n 1, 1) := by decide +kernel
theorem d_Md_plain_15 : decode b_Md_plain 15 = .ok (.iaload, 1) := by decide +kernel
theorem d_Md_plain_16 : decode b_Md_plain 16 = .ok (.ifCond .ne 20, 3) := by decide +kernel
theorem d_Md_plain_19 : decode b_Md_plain 19 = .ok (.aload_n 0, 1) := by decide +kernel
theorem d_Md_plain_20 : decode b_Md_plain 20 = .ok (.getfield 59, 3) := by decide +kernel
theorem d_Md_plain_23 : decode b_Md_plain 23 = .ok (.iload_n 1, 1) := by decide +kernel
theorem d_Md_plain_24 : decode b_Md_plain 24 = .ok (.iaload, 1) := by decide +kernel
theorem d_Md_plain_25 : decode b_Md_plain 25 = .ok (.iload_n 2, 1) := by decide +kernel
theorem d_Md_plain_26 : decode b_Md_plain 26 = .ok (.bipush 6, 2) := by decide +kernel
theorem d_Md_plain_28 : decode b_Md_plain 28 = .ok (.idiv, 1) := by decide +kernel
theorem d_Md_plain_29 : decode b_Md_plain 29 = .ok (.if_icmp .eq 7, 3) := by decide +kernel
theorem d_Md_plain_32 : decode b_Md_plain 32 = .ok (.iconst 1, 1) := by decide +kernel
theorem d_Md_plain_33 : decode b_Md_plain 33 = .ok (.goto 4, 3) := by decide +kernel
theorem d_Md_plain_36 : decode b_Md_plain 36 = .ok (.iconst 0, 1) := by decide +kernel
theorem d_Md_plain_37 : decode b_Md_plain 37 = .ok (.ireturn, 1) := by decide +kernel
theorem d_Md_common_0 : decode b_Md_common 0 = .ok (.iload_n 1, 1) := by decide +kernel
theorem d_Md_common_1 : decode b_Md_common 1 = .ok (.istore 4, 2) := by decide +kernel
theorem d_Md_common_3 : decode b_Md_common 3 = .ok (.iload 4, 2) := by decide +kernel
theorem d_Md_common_5 : decode b_Md_common 5 = .ok (.iload_n 1, 1) := by decide +kernel
theorem d_Md_common_6 : decode b_Md_common 6 = .ok (.iload_n 2, 1) := by decide +kernel
theorem d_Md_common_7 : decode b_Md_common 7 = .ok (.iadd, 1) := by decide +kernel
theorem d_Md_common_8 : decode b_Md_common 8 = .ok (.if_icmp .ge 98, 3) := by decide +kernel
theorem d_Md_common_11 : decode b_Md_common 11 = .ok (.iconst 0, 1) := by decide +kernel
theorem d_Md_common_12 : decode b_Md_common 12 = .ok (.istore 5, 2) := by decide +kernel
theorem d_Md_common_14 : decode b_Md_common 14 = .ok (.iload_n 1, 1) := by decide +kernel
theorem d_Md_common_15 : decode b_Md_common 15 = .ok (.istore 6, 2) := by decide +kernel
theorem d_Md_common_17 : decode b_Md_common 17 = .ok (.iload 6, 2) := by decide +kernel
theorem d_Md_common_19 : decode b_Md_common 19 = .ok (.iload_n 1, 1) := by decide +kernel
theorem d_Md_common_20 : decode b_Md_common 20 = .ok (.iload_n 2, 1) := by decide +kernel
theorem d_Md_common_21 : decode b_Md_common 21 = .ok (.iadd, 1) := by decide +kernel
theorem d_Md_common_22 : decode b_Md_common 22 = .ok (.if_icmp .ge 66, 3) := by decide +kernel
theorem d_Md_common_25 : decode b_Md_common 25 = .ok (.aload_n 0, 1) := by decide +kernel
theorem d_Md_common_26 : decode b_Md_common 26 = .ok (.iload 4, 2) := by decide +kernel
theorem d_Md_common_28 : decode b_Md_common 28 = .ok (.iload_n 3, 1) := by decide +kernel
theorem d_Md_common_29 : decode b_Md_common 29 = .ok (.invokevirtual 164, 3) := by decide +kernel
theorem d_Md_common_32 : decode b_Md_common 32 = .ok (.ifCond .eq 50, 3) := by decide +kernel
theorem d_Md_common_35 : decode b_Md_common 35 = .ok (.aload_n 0, 1) := by decide +kernel
theorem d_Md_common_36 : decode b_Md_common 36 = .ok (.iload 6, 2) := by decide +kernel
theorem d_Md_common_38 : decode b_Md_common 38 = .ok (.iload_n 3, 1) := by decide +kernel
theorem d_Md_common_39 : decode b_Md_common 39 = .ok (.invokevirtual 164, 3) := by decide +kernel
theorem d_Md_common_42 : decode b_Md_common 42 = .ok (.ifCond .eq 40, 3) := by decide +kernel
theorem d_Md_common_45 : decode b_Md_common 45 = .ok (.aload_n 0, 1) := by decide +kernel
theorem d_Md_common_46 : decode b_Md_common 46 = .ok (.getfield 71, 3) := by decide +kernel
theorem d_Md_common_49 : decode b_Md_common 49 = .ok (.iload 6, 2) := by decide +kernel
theorem d_Md_common_51 : decode b_Md_common 51 = .ok (.iaload, 1) := by decide +kernel
theorem d_Md_common_52 : decode b_Md_common 52 = .ok (.aload_n 0, 1) := by decide +kernel
theorem d_Md_common_53 : decode b_Md_common 53 = .ok (.getfield 71, 3) := by decide +kernel
theorem d_Md_common_56 : decode b_Md_common 56 = .ok (.iload 4, 2) := by decide +kernel
theorem d_Md_common_58 : decode b_Md_common 58 = .ok (.iaload, 1) := by decide +kernel
theorem d_Md_common_59 : decode b_Md_common 59 = .ok (.if_icmp .ne 23, 3) := by decide +kernel
theorem d_Md_common_62 : decode b_Md_common 62 = .ok (.aload_n 0, 1) := by decide +kernel
theorem d_Md_common_63 : decode b_Md_common 63 = .ok (.getfield 74, 3) := by decide +kernel
theorem d_Md_common_66 : decode b_Md_common 66 = .ok (.iload 6, 2) := by decide +kernel
theorem d_Md_common_68 : decode b_Md_common 68 = .ok (.iaload, 1) := by decide +kernel
theorem d_Md_common_69 : decode b_Md_common 69 = .ok (.aload_n 0, 1) := by decide +kernel
theorem d_Md_common_70 : decode b_Md_common 70 = .ok (.getfield 74, 3) := by decide +kernel
theorem d_Md_common_73 : decode b_Md_common 73 = .ok (.iload 4, 2) := by decide +kernel
theorem d_Md_common_75 : decode b_Md_common 75 = .ok (.iaload, 1) := by decide +kernel
theorem d_Md_common_76 : decode b_Md_common 76 = .ok (.if_icmp .ne 6, 3) := by decide +kernel
theorem d_Md_common_79 : decode b_Md_common 79 = .ok (.iinc 5 1, 3) := by decide +kernel
theorem d_Md_common_82 : decode b_Md_common 82 = .ok (.iinc 6 1, 3) := by decide +kernel
theorem d_Md_common_85 : decode b_Md_common 85 = .ok (.goto (-68), 3) := by decide +kernel
theorem d_Md_common_88 : decode b_Md_common 88 = .ok (.iload 5, 2) := by decide +kernel
theorem d_Md_common_90 : decode b_Md_common 90 = .ok (.aload_n 0, 1) := by decide +kernel
theorem d_Md_common_91 : decode b_Md_common 91 = .ok (.getfield 90, 3) := by decide +kernel
theorem d_Md_common_94 : decode b_Md_common 94 = .ok (.if_icmp .lt 6, 3) := by decide +kernel
theorem d_Md_common_97 : decode b_Md_common 97 = .ok (.iload 4, 2) := by decide +kernel
theorem d_Md_common_99 : decode b_Md_common 99 = .ok (.ireturn, 1) := by decide +kernel
theorem d_Md_common_100 : decode b_Md_common 100 = .ok (.iinc 4 1, 3) := by decide +kernel
theorem d_Md_common_103 : decode b_Md_common 103 = .ok (.goto (-100), 3) := by decide +kernel
theorem d_Md_common_106 : decode b_Md_common 106 = .ok (.iconst (-1), 1) := by decide +kernel
theorem d_Md_common_107 : decode b_Md_common 107 = .ok (.ireturn, 1) := by decide +kernel
theorem d_Md_preaccepted_0 : decode b_Md_preaccepted 0 = .ok (.iload_n 1, 1) := by decide +kernel
theorem d_Md_preaccepted_1 : decode b_Md_preaccepted 1 = .ok (.istore_n 3, 1) := by decide +kernel
theorem d_Md_preaccepted_2 : decode b_Md_preaccepted 2 = .ok (.iload_n 3, 1) := by decide +kernel
theorem d_Md_preaccepted_3 : decode b_Md_preaccepted 3 = .ok (.iload_n 1, 1) := by decide +kernel
theorem d_Md_preaccepted_4 : decode b_Md_preaccepted 4 = .ok (.iload_n 2, 1) := by decide +kernel
theorem d_Md_preaccepted_5 : decode b_Md_preaccepted 5 = .ok (.iadd, 1) := by decide +kernel
theorem d_Md_preaccepted_6 : decode b_Md_preaccepted 6 = .ok (.if_icmp .ge 21, 3) := by decide +kernel
theorem d_Md_preaccepted_9 : decode b_Md_preaccepted 9 = .ok (.aload_n 0, 1) := by decide +kernel
theorem d_Md_preaccepted_10 : decode b_Md_preaccepted 10 = .ok (.getfield 62, 3) := by decide +kernel
theorem d_Md_preaccepted_13 : decode b_Md_preaccepted 13 = .ok (.iload_n 3, 1) := by decide +kernel
theorem d_Md_preaccepted_14 : decode b_Md_preaccepted 14 = .ok (.iaload, 1) := by decide +kernel
theorem d_Md_preaccepted_15 : decode b_Md_preaccepted 15 = .ok (.iconst 1, 1) := by decide +kernel
theorem d_Md_preaccepted_16 : decode b_Md_preaccepted 16 = .ok (.if_icmp .ne 5, 3) := by decide +kernel
theorem d_Md_preaccepted_19 : decode b_Md_preaccepted 19 = .ok (.iload_n 3, 1) := by decide +kernel
theorem d_Md_preaccepted_20 : decode b_Md_preaccepted 20 = .ok (.ireturn, 1) := by decide +kernel
theorem d_Md_preaccepted_21 : decode b_Md_preaccepted 21 = .ok (.iinc 3 1, 3) := by decide +kernel
theorem d_Md_preaccepted_24 : decode b_Md_preaccepted 24 = .ok (.goto (-22), 3) := by decide +kernel
theorem d_Md_preaccepted_27 : decode b_Md_preaccepted 27 = .ok (.iconst (-1), 1) := by decide +kernel
theorem d_Md_preaccepted_28 : decode b_Md_preaccepted 28 = .ok (.ireturn, 1) := by decide +kernel
