theorem d_At_countOrder_0 : decode b_At_countOrder 0 = .ok (.aload_n 0, 1) := by decide +kernel
theorem d_At_countOrder_1 : decode b_At_countOrder 1 = .ok (.aload_n 0, 1) := by decide +kernel
theorem d_At_countOrder_2 : decode b_At_countOrder 2 = .ok (.getfield 28, 3) := by decide +kernel
theorem d_At_countOrder_5 : decode b_At_countOrder 5 = .ok (.ifCond .eq 32, 3) := by decide +kernel
theorem d_At_countOrder_8 : decode b_At_countOrder 8 = .ok (.aload_n 0, 1) := by decide +kernel
theorem d_At_countOrder_9 : decode b_At_countOrder 9 = .ok (.getfield 31, 3) := by decide +kernel
theorem d_At_countOrder_12 : decode b_At_countOrder 12 = .ok (.ifCond .eq 29, 3) := by decide +kernel
theorem d_At_countOrder_15 : decode b_At_countOrder 15 = .ok (.aload_n 1, 1) := by decide +kernel
theorem d_At_countOrder_16 : decode b_At_countOrder 16 = .ok (.getfield 34, 3) := by decide +kernel
theorem d_At_countOrder_19 : decode b_At_countOrder 19 = .ok (.aload_n 0, 1) := by decide +kernel
theorem d_At_countOrder_20 : decode b_At_countOrder 20 = .ok (.getfield 39, 3) := by decide +kernel
theorem d_At_countOrder_23 : decode b_At_countOrder 23 = .ok (.if_icmp .ne 18, 3) := by decide +kernel
theorem d_At_countOrder_26 : decode b_At_countOrder 26 = .ok (.aload_n 1, 1) := by decide +kernel
theorem d_At_countOrder_27 : decode b_At_countOrder 27 = .ok (.getfield 42, 3) := by decide +kernel
theorem d_At_countOrder_30 : decode b_At_countOrder 30 = .ok (.aload_n 0, 1) := by decide +kernel
theorem d_At_countOrder_31 : decode b_At_countOrder 31 = .ok (.getfield 45, 3) := by decide +kernel
theorem d_At_countOrder_34 : decode b_At_countOrder 34 = .ok (.if_icmp .ne 7, 3) := by decide +kernel
theorem d_At_countOrder_37 : decode b_At_countOrder 37 = .ok (.iconst 1, 1) := by decide +kernel
theorem d_At_countOrder_38 : decode b_At_countOrder 38 = .ok (.goto 4, 3) := by decide +kernel
theorem d_At_countOrder_41 : decode b_At_countOrder 41 = .ok (.iconst 0, 1) := by decide +kernel
theorem d_At_countOrder_42 : decode b_At_countOrder 42 = .ok (.putfield 31, 3) := by decide +kernel
theorem d_At_countOrder_45 : decode b_At_countOrder 45 = .ok (.aload_n 0, 1) := by decide +kernel
theorem d_At_countOrder_46 : decode b_At_countOrder 46 = .ok (.aload_n 0, 1) := by decide +kernel
theorem d_At_countOrder_47 : decode b_At_countOrder 47 = .ok (.getfield 28, 3) := by decide +kernel
theorem d_At_countOrder_50 : decode b_At_countOrder 50 = .ok (.ifCond .ne 10, 3) := by decide +kernel
theorem d_At_countOrder_53 : decode b_At_countOrder 53 = .ok (.aload_n 1, 1) := by decide +kernel
theorem d_At_countOrder_54 : decode b_At_countOrder 54 = .ok (.getfield 34, 3) := by decide +kernel
theorem d_At_countOrder_57 : decode b_At_countOrder 57 = .ok (.goto 14, 3) := by decide +kernel
theorem d_At_countOrder_60 : decode b_At_countOrder 60 = .ok (.aload_n 0, 1) := by decide +kernel
theorem d_At_countOrder_61 : decode b_At_countOrder 61 = .ok (.getfield 39, 3) := by decide +kernel
theorem d_At_countOrder_64 : decode b_At_countOrder 64 = .ok (.aload_n 1, 1) := by decide +kernel
theorem d_At_countOrder_65 : decode b_At_countOrder 65 = .ok (.getfield 34, 3) := by decide +kernel
theorem d_At_countOrder_68 : decode b_At_countOrder 68 = .ok (.invokestatic 48, 3) := by decide +kernel
theorem d_At_countOrder_71 : decode b_At_countOrder 71 = .ok (.putfield 39, 3) := by decide +kernel
theorem d_At_countOrder_74 : decode b_At_countOrder 74 = .ok (.aload_n 0, 1) := by decide +kernel
theorem d_At_countOrder_75 : decode b_At_countOrder 75 = .ok (.aload_n 0, 1) := by decide +kernel
theorem d_At_countOrder_76 : decode b_At_countOrder 76 = .ok (.getfield 28, 3) := by decide +kernel
theorem d_At_countOrder_79 : decode b_At_countOrder 79 = .ok (.ifCond .ne 10, 3) := by decide +kernel
theorem d_At_countOrder_82 : decode b_At_countOrder 82 = .ok (.aload_n 1, 1) := by decide +kernel
theorem d_At_countOrder_83 : decode b_At_countOrder 83 = .ok (.getfield 42, 3) := by decide +kernel
theorem d_At_countOrder_86 : decode b_At_countOrder 86 = .ok (.goto 12, 3) := by decide +kernel
theorem d_At_countOrder_89 : decode b_At_countOrder 89 = .ok (.aload_n 0, 1) := by decide +kernel
theorem d_At_countOrder_90 : decode b_At_countOrder 90 = .ok (.getfield 45, 3) := by decide +kernel
theorem d_At_countOrder_93 : decode b_At_countOrder 93 = .ok (.aload_n 1, 1) := by decide +kernel
theorem d_At_countOrder_94 : decode b_At_countOrder 94 = .ok (.getfield 42, 3) := by decide +kernel
theorem d_At_countOrder_97 : decode b_At_countOrder 97 = .ok (.ior, 1) := by decide +kernel
theorem d_At_countOrder_98 : decode b_At_countOrder 98 = .ok (.putfield 45, 3) := by decide +kernel
theorem d_At_countOrder_101 : decode b_At_countOrder 101 = .ok (.aload_n 0, 1) := by decide +kernel
theorem d_At_countOrder_102 : decode b_At_countOrder 102 = .ok (.dup, 1) := by decide +kernel
theorem d_At_countOrder_103 : decode b_At_countOrder 103 = .ok (.getfield 28, 3) := by decide +kernel
theorem d_At_countOrder_106 : decode b_At_countOrder 106 = .ok (.iconst 1, 1) := by decide +kernel
theorem d_At_countOrder_107 : decode b_At_countOrder 107 = .ok (.iadd, 1) := by decide +kernel
theorem d_At_countOrder_108 : decode b_At_countOrder 108 = .ok (.putfield 28, 3) := by decide +kernel
theorem d_At_countOrder_111 : decode b_At_countOrder 111 = .ok (.return_, 1) := by decide +kernel
theorem d_Rp_commitHere_0 : decode b_Rp_commitHere 0 = .ok (.aload_n 0, 1) := by decide +kernel
theorem d_Rp_commitHere_1 : decode b_Rp_commitHere 1 = .ok (.getfield 27, 3) := by decide +kernel
theorem d_Rp_commitHere_4 : decode b_Rp_commitHere 4 = .ok (.iload_n 1, 1) := by decide +kernel
theorem d_Rp_commitHere_5 : decode b_Rp_commitHere 5 = .ok (.aaload, 1) := by decide +kernel
theorem d_Rp_commitHere_6 : decode b_Rp_commitHere 6 = .ok (.iconst 3, 1) := by decide +kernel
theorem d_Rp_commitHere_7 : decode b_Rp_commitHere 7 = .ok (.aload_n 2, 1) := by decide +kernel
theorem d_Rp_commitHere_8 : decode b_Rp_commitHere 8 = .ok (.invokevirtual 62, 3) := by decide +kernel
theorem d_Rp_commitHere_11 : decode b_Rp_commitHere 11 = .ok (.aload_n 0, 1) := by decide +kernel
theorem d_Rp_commitHere_12 : decode b_Rp_commitHere 12 = .ok (.iconst 4, 1) := by decide +kernel
theorem d_Rp_commitHere_13 : decode b_Rp_commitHere 13 = .ok (.iload_n 1, 1) := by decide +kernel
theorem d_Rp_commitHere_14 : decode b_Rp_commitHere 14 = .ok (.iconst 0, 1) := by decide +kernel
theorem d_Rp_commitHere_15 : decode b_Rp_commitHere 15 = .ok (.aload_n 2, 1) := by decide +kernel
theorem d_Rp_commitHere_16 : decode b_Rp_commitHere 16 = .ok (.invokevirtual 84, 3) := by decide +kernel
theorem d_Rp_commitHere_19 : decode b_Rp_commitHere 19 = .ok (.return_, 1) := by decide +kernel
theorem d_At_enterPhase_0 : decode b_At_enterPhase 0 = .ok (.aload_n 0, 1) := by decide +kernel
theorem d_At_enterPhase_1 : decode b_At_enterPhase 1 = .ok (.iload_n 1, 1) := by decide +kernel
theorem d_At_enterPhase_2 : decode b_At_enterPhase 2 = .ok (.putfield 15, 3) := by decide +kernel
theorem d_At_enterPhase_5 : decode b_At_enterPhase 5 = .ok (.aload_n 0, 1) := by decide +kernel
theorem d_At_enterPhase_6 : decode b_At_enterPhase 6 = .ok (.iconst 0, 1) := by decide +kernel
theorem d_At_enterPhase_7 : decode b_At_enterPhase 7 = .ok (.putfield 28, 3) := by decide +kernel
theorem d_At_enterPhase_10 : decode b_At_enterPhase 10 = .ok (.return_, 1) := by decide +kernel
theorem d_Rp_beginAccepting_0 : decode b_Rp_beginAccepting 0 = .ok (.aload_n 0, 1) := by decide +kernel
theorem d_Rp_beginAccepting_1 : decode b_Rp_beginAccepting 1 = .ok (.getfield 27, 3) := by decide +kernel
theorem d_Rp_beginAccepting_4 : decode b_Rp_beginAccepting 4 = .ok (.iload_n 1, 1) := by decide +kernel
theorem d_Rp_beginAccepting_5 : decode b_Rp_beginAccepting 5 = .ok (.aaload, 1) := by decide +kernel
theorem d_Rp_beginAccepting_6 : decode b_Rp_beginAccepting 6 = .ok (.iconst 2, 1) := by decide +kernel
theorem d_Rp_beginAccepting_7 : decode b_Rp_beginAccepting 7 = .ok (.aload_n 3, 1) := by decide +kernel
theorem d_Rp_beginAccepting_8 : decode b_Rp_beginAccepting 8 = .ok (.aload_n 2, 1) := by decide +kernel
theorem d_Rp_beginAccepting_9 : decode b_Rp_beginAccepting 9 = .ok (.getfield 218, 3) := by decide +kernel
theorem d_Rp_beginAccepting_12 : decode b_Rp_beginAccepting 12 = .ok (.invokevirtual 142, 3) := by decide +kernel
theorem d_Rp_beginAccepting_15 : decode b_Rp_beginAccepting 15 = .ok (.aload_n 2, 1) := by decide +kernel
theorem d_Rp_beginAccepting_16 : decode b_Rp_beginAccepting 16 = .ok (.iconst 2, 1) := by decide +kernel
theorem d_Rp_beginAccepting_17 : decode b_Rp_beginAccepting 17 = .ok (.invokevirtual 219, 3) := by decide +kernel
theorem d_Rp_beginAccepting_20 : decode b_Rp_beginAccepting 20 = .ok (.aload_n 0, 1) := by decide +kernel
theorem d_Rp_beginAccepting_21 : decode b_Rp_beginAccepting 21 = .ok (.iconst 2, 1) := by decide +kernel
theorem d_Rp_beginAccepting_22 : decode b_Rp_beginAccepting 22 = .ok (.iload_n 1, 1) := by decide +kernel
theorem d_Rp_beginAccepting_23 : decode b_Rp_beginAccepting 23 = .ok (.aload_n 2, 1) := by decide +kernel
theorem d_Rp_beginAccepting_24 : decode b_Rp_beginAccepting 24 = .ok (.getfield 218, 3) := by decide +kernel
theorem d_Rp_beginAccepting_27 : decode b_Rp_beginAccepting 27 = .ok (.aload_n 3, 1) := by decide +kernel
theorem d_Rp_beginAccepting_28 : decode b_Rp_beginAccepting 28 = .ok (.invokevirtual 84, 3) := by decide +kernel
theorem d_Rp_beginAccepting_31 : decode b_Rp_beginAccepting 31 = .ok (.return_, 1) := by decide +kernel
theorem d_Rp_onPreacceptOk_0 : decode b_Rp_onPreacceptOk 0 = .ok (.aload_n 0, 1) := by decide +kernel
theorem d_Rp_onPreacceptOk_1 : decode b_Rp_onPreacceptOk 1 = .ok (.aload_n 1, 1) := by decide +kernel
theorem d_Rp_onPreacceptOk_2 : decode b_Rp_onPreacceptOk 2 = .ok (.iconst 1, 1) := by decide +kernel
theorem d_Rp_onPreacceptOk_3 : decode b_Rp_onPreacceptOk 3 = .ok (.invokevirtual 146, 3) := by decide +kernel
theorem d_Rp_onPreacceptOk_6 : decode b_Rp_onPreacceptOk 6 = .ok (.astore_n 2, 1) := by decide +kernel
theorem d_Rp_onPreacceptOk_7 : decode b_Rp_onPreacceptOk 7 = .ok (.aload_n 2, 1) := by decide +kernel
theorem d_Rp_onPreacceptOk_8 : decode b_Rp_onPreacceptOk 8 = .ok (.ifnonnull 4, 3) := by decide +kernel
theorem d_Rp_onPreacceptOk_11 : decode b_Rp_onPreacceptOk 11 = .ok (.return_, 1) := by decide +kernel
theorem d_Rp_onPreacceptOk_12 : decode b_Rp_onPreacceptOk 12 = .ok (.aload_n 2, 1) := by decide +kernel
theorem d_Rp_onPreacceptOk_13 : decode b_Rp_onPreacceptOk 13 = .ok (.aload_n 1, 1) := by decide +kernel
theorem d_Rp_onPreacceptOk_14 : decode b_Rp_onPreacceptOk 14 = .ok (.getfield 141, 3) := by decide +kernel
theorem d_Rp_onPreacceptOk_17 : decode b_Rp_onPreacceptOk 17 = .ok (.invokevirtual 150, 3) := by decide +kernel
theorem d_Rp_onPreacceptOk_20 : decode b_Rp_onPreacceptOk 20 = .ok (.aload_n 0, 1) := by decide +kernel
theorem d_Rp_onPreacceptOk_21 : decode b_Rp_onPreacceptOk 21 = .ok (.getfield 27, 3) := by decide +kernel
theorem d_Rp_onPreacceptOk_24 : decode b_Rp_onPreacceptOk 24 = .ok (.aload_n 1, 1) := by decide +kernel
theorem d_Rp_onPreacceptOk_25 : decode b_Rp_onPreacceptOk 25 = .ok (.getfield 92, 3) := by decide +kernel
theorem d_Rp_onPreacceptOk_28 : decode b_Rp_onPreacceptOk 28 = .ok (.aaload, 1) := by decide +kernel
theorem d_Rp_onPreacceptOk_29 : decode b_Rp_onPreacceptOk 29 = .ok (.getfield 102, 3) := by decide +kernel
theorem d_Rp_onPreacceptOk_32 : decode b_Rp_onPreacceptOk 32 = .ok (.getfield 154, 3) := by decide +kernel
theorem d_Rp_onPreacceptOk_35 : decode b_Rp_onPreacceptOk 35 = .ok (.astore_n 3, 1) := by decide +kernel
theorem d_Rp_onPreacceptOk_36 : decode b_Rp_onPreacceptOk 36 = .ok (.new 53, 3) := by decide +kernel
theorem d_Rp_onPreacceptOk_39 : decode b_Rp_onPreacceptOk 39 = .ok (.dup, 1) := by decide +kernel
theorem d_Rp_onPreacceptOk_40 : decode b_Rp_onPreacceptOk 40 = .ok (.aload_n 3, 1) := by decide +kernel
theorem d_Rp_onPreacceptOk_41 : decode b_Rp_onPreacceptOk 41 = .ok (.aload_n 2, 1) := by decide +kernel
theorem d_Rp_onPreacceptOk_42 : decode b_Rp_onPreacceptOk 42 = .ok (.getfield 158, 3) := by decide +kernel
theorem d_Rp_onPreacceptOk_45 : decode b_Rp_onPreacceptOk 45 = .ok (.aload_n 2, 1) := by decide +kernel
theorem d_Rp_onPreacceptOk_46 : decode b_Rp_onPreacceptOk 46 = .ok (.getfield 161, 3) := by decide +kernel
theorem d_Rp_onPreacceptOk_49 : decode b_Rp_onPreacceptOk 49 = .ok (.invokespecial 55, 3) := by decide +kernel
theorem d_Rp_onPreacceptOk_52 : decode b_Rp_onPreacceptOk 52 = .ok (.astore 4, 2) := by decide +kernel
theorem d_Rp_onPreacceptOk_54 : decode b_Rp_onPreacceptOk 54 = .ok (.aload_n 2, 1) := by decide +kernel
theorem d_Rp_onPreacceptOk_55 : decode b_Rp_onPreacceptOk 55 = .ok (.getfield 164, 3) := by decide +kernel
theorem d_Rp_onPreacceptOk_58 : decode b_Rp_onPreacceptOk 58 = .ok (.ifCond .eq 14, 3) := by decide +kernel
theorem d_Rp_onPreacceptOk_61 : decode b_Rp_onPreacceptOk 61 = .ok (.aload_n 2, 1) := by decide +kernel
theorem d_Rp_onPreacceptOk_62 : decode b_Rp_onPreacceptOk 62 = .ok (.getfield 167, 3) := by decide +kernel
theorem d_Rp_onPreacceptOk_65 : decode b_Rp_onPreacceptOk 65 = .ok (.ifCond .eq 7, 3) := by decide +kernel
theorem d_Rp_onPreacceptOk_68 : decode b_Rp_onPreacceptOk 68 = .ok (.iconst 1, 1) := by decide +kernel
theorem d_Rp_onPreacceptOk_69 : decode b_Rp_onPreacceptOk 69 = .ok (.goto 4, 3) := by decide +kernel
theorem d_Rp_onPreacceptOk_72 : decode b_Rp_onPreacceptOk 72 = .ok (.iconst 0, 1) := by decide +kernel
theorem d_Rp_onPreacceptOk_73 : decode b_Rp_onPreacceptOk 73 = .ok (.istore 5, 2) := by decide +kernel
theorem d_Rp_onPreacceptOk_75 : decode b_Rp_onPreacceptOk 75 = .ok (.iload 5, 2) := by decide +kernel
theorem d_Rp_onPreacceptOk_77 : decode b_Rp_onPreacceptOk 77 = .ok (.ifCond .eq 29, 3) := by decide +kernel
theorem d_Rp_onPreacceptOk_80 : decode b_Rp_onPreacceptOk 80 = .ok (.aload_n 2, 1) := by decide +kernel
theorem d_Rp_onPreacceptOk_81 : decode b_Rp_onPreacceptOk 81 = .ok (.getfield 170, 3) := by decide +kernel
theorem d_Rp_onPreacceptOk_84 : decode b_Rp_onPreacceptOk 84 = .ok (.aload_n 0, 1) := by decide +kernel
theorem d_Rp_onPreacceptOk_85 : decode b_Rp_onPreacceptOk 85 = .ok (.getfield 15, 3) := by decide +kernel
theorem d_Rp_onPreacceptOk_88 : decode b_Rp_onPreacceptOk 88 = .ok (.iconst 2, 1) := by decide +kernel
theorem d_Rp_onPreacceptOk_89 : decode b_Rp_onPreacceptOk 89 = .ok (.isub, 1) := by decide +kernel
theorem d_Rp_onPreacceptOk_90 : decode b_Rp_onPreacceptOk 90 = .ok (.if_icmp .ne 16, 3) := by decide +kernel
theorem d_Rp_onPreacceptOk_93 : decode b_Rp_onPreacceptOk 93 = .ok (.aload_n 0, 1) := by decide +kernel
theorem d_Rp_onPreacceptOk_94 : decode b_Rp_onPreacceptOk 94 = .ok (.aload_n 1, 1) := by decide +kernel
theorem d_Rp_onPreacceptOk_95 : decode b_Rp_onPreacceptOk 95 = .ok (.getfield 92, 3) := by decide +kernel
theorem d_Rp_onPreacceptOk_98 : decode b_Rp_onPreacceptOk 98 = .ok (.aload 4, 2) := by decide +kernel
theorem d_Rp_onPreacceptOk_100 : decode b_Rp_onPreacceptOk 100 = .ok (.invokevirtual 173, 3) := by decide +kernel
theorem d_Rp_onPreacceptOk_103 : decode b_Rp_onPreacceptOk 103 = .ok (.goto 30, 3) := by decide +kernel
theorem d_Rp_onPreacceptOk_106 : decode b_Rp_onPreacceptOk 106 = .ok (.iload 5, 2) := by decide +kernel
theorem d_Rp_onPreacceptOk_108 : decode b_Rp_onPreacceptOk 108 = .ok (.ifCond .ne 25, 3) := by decide +kernel
theorem d_Rp_onPreacceptOk_111 : decode b_Rp_onPreacceptOk 111 = .ok (.aload_n 2, 1) := by decide +kernel
theorem d_Rp_onPreacceptOk_112 : decode b_Rp_onPreacceptOk 112 = .ok (.getfield 170, 3) := by decide +kernel
theorem d_Rp_onPreacceptOk_115 : decode b_Rp_onPreacceptOk 115 = .ok (.aload_n 0, 1) := by decide +kernel
theorem d_Rp_onPreacceptOk_116 : decode b_Rp_onPreacceptOk 116 = .ok (.getfield 18, 3) := by decide +kernel
theorem d_Rp_onPreacceptOk_119 : decode b_Rp_onPreacceptOk 119 = .ok (.if_icmp .lt 14, 3) := by decide +kernel
theorem d_Rp_onPreacceptOk_122 : decode b_Rp_onPreacceptOk 122 = .ok (.aload_n 0, 1) := by decide +kernel
theorem d_Rp_onPreacceptOk_123 : decode b_Rp_onPreacceptOk 123 = .ok (.aload_n 1, 1) := by decide +kernel
theorem d_Rp_onPreacceptOk_124 : decode b_Rp_onPreacceptOk 124 = .ok (.getfield 92, 3) := by decide +kernel
theorem d_Rp_onPreacceptOk_127 : decode b_Rp_onPreacceptOk 127 = .ok (.aload_n 2, 1) := by decide +kernel
theorem d_Rp_onPreacceptOk_128 : decode b_Rp_onPreacceptOk 128 = .ok (.aload 4, 2) := by decide +kernel
theorem d_Rp_onPreacceptOk_130 : decode b_Rp_onPreacceptOk 130 = .ok (.invokevirtual 176, 3) := by decide +kernel
theorem d_Rp_onPreacceptOk_133 : decode b_Rp_onPreacceptOk 133 = .ok (.return_, 1) := by decide +kernel
theorem d_Rp_onAccept_0 : decode b_Rp_onAccept 0 = .ok (.aload_n 1, 1) := by decide +kernel
theorem d_Rp_onAccept_1 : decode b_Rp_onAccept 1 = .ok (.getfield 138, 3) := by decide +kernel
theorem d_Rp_onAccept_4 : decode b_Rp_onAccept 4 = .ok (.aload_n 2, 1) := by decide +kernel
theorem d_Rp_onAccept_5 : decode b_Rp_onAccept 5 = .ok (.getfield 50, 3) := by decide +kernel
theorem d_Rp_onAccept_8 : decode b_Rp_onAccept 8 = .ok (.if_icmp .ge 4, 3) := by decide +kernel
theorem d_Rp_onAccept_11 : decode b_Rp_onAccept 11 = .ok (.return_, 1) := by decide +kernel
theorem d_Rp_onAccept_12 : decode b_Rp_onAccept 12 = .ok (.aload_n 2, 1) := by decide +kernel
theorem d_Rp_onAccept_13 : decode b_Rp_onAccept 13 = .ok (.iconst 2, 1) := by decide +kernel
theorem d_Rp_onAccept_14 : decode b_Rp_onAccept 14 = .ok (.aload_n 1, 1) := by decide +kernel
theorem d_Rp_onAccept_15 : decode b_Rp_onAccept 15 = .ok (.getfield 141, 3) := by decide +kernel
theorem d_Rp_onAccept_18 : decode b_Rp_onAccept 18 = .ok (.aload_n 1, 1) := by decide +kernel
theorem d_Rp_onAccept_19 : decode b_Rp_onAccept 19 = .ok (.getfield 138, 3) := by decide +kernel
theorem d_Rp_onAccept_22 : decode b_Rp_onAccept 22 = .ok (.invokevirtual 142, 3) := by decide +kernel
theorem d_Rp_onAccept_25 : decode b_Rp_onAccept 25 = .ok (.aload_n 0, 1) := by decide +kernel
theorem d_Rp_onAccept_26 : decode b_Rp_onAccept 26 = .ok (.aload_n 1, 1) := by decide +kernel
theorem d_Rp_onAccept_27 : decode b_Rp_onAccept 27 = .ok (.iconst 3, 1) := by decide +kernel
theorem d_Rp_onAccept_28 : decode b_Rp_onAccept 28 = .ok (.aconst_null, 1) := by decide +kernel
theorem d_Rp_onAccept_29 : decode b_Rp_onAccept 29 = .ok (.aconst_null, 1) := by decide +kernel
theorem d_Rp_onAccept_30 : decode b_Rp_onAccept 30 = .ok (.invokevirtual 106, 3) := by decide +kernel
theorem d_Rp_onAccept_33 : decode b_Rp_onAccept 33 = .ok (.return_, 1) := by decide +kernel
theorem d_Rp_onAcceptOk_0 : decode b_Rp_onAcceptOk 0 = .ok (.aload_n 0, 1) := by decide +kernel
theorem d_Rp_onAcceptOk_1 : decode b_Rp_onAcceptOk 1 = .ok (.aload_n 1, 1) := by decide +kernel
theorem d_Rp_onAcceptOk_2 : decode b_Rp_onAcceptOk 2 = .ok (.iconst 2, 1) := by decide +kernel
theorem d_Rp_onAcceptOk_3 : decode b_Rp_onAcceptOk 3 = .ok (.invokevirtual 146, 3) := by decide +kernel
theorem d_Rp_onAcceptOk_6 : decode b_Rp_onAcceptOk 6 = .ok (.astore_n 2, 1) := by decide +kernel
theorem d_Rp_onAcceptOk_7 : decode b_Rp_onAcceptOk 7 = .ok (.aload_n 2, 1) := by decide +kernel
theorem d_Rp_onAcceptOk_8 : decode b_Rp_onAcceptOk 8 = .ok (.ifnonnull 4, 3) := by decide +kernel
theorem d_Rp_onAcceptOk_11 : decode b_Rp_onAcceptOk 11 = .ok (.return_, 1) := by decide +kernel
theorem d_Rp_onAcceptOk_12 : decode b_Rp_onAcceptOk 12 = .ok (.aload_n 2, 1) := by decide +kernel
theorem d_Rp_onAcceptOk_13 : decode b_Rp_onAcceptOk 13 = .ok (.dup, 1) := by decide +kernel
theorem d_Rp_onAcceptOk_14 : decode b_Rp_onAcceptOk 14 = .ok (.getfield 170, 3) := by decide +kernel
theorem d_Rp_onAcceptOk_17 : decode b_Rp_onAcceptOk 17 = .ok (.iconst 1, 1) := by decide +kernel
theorem d_Rp_onAcceptOk_18 : decode b_Rp_onAcceptOk 18 = .ok (.iadd, 1) := by decide +kernel
theorem d_Rp_onAcceptOk_19 : decode b_Rp_onAcceptOk 19 = .ok (.putfield 170, 3) := by decide +kernel
theorem d_Rp_onAcceptOk_22 : decode b_Rp_onAcceptOk 22 = .ok (.aload_n 2, 1) := by decide +kernel
theorem d_Rp_onAcceptOk_23 : decode b_Rp_onAcceptOk 23 = .ok (.getfield 170, 3) := by decide +kernel
theorem d_Rp_onAcceptOk_26 : decode b_Rp_onAcceptOk 26 = .ok (.aload_n 0, 1) := by decide +kernel
theorem d_Rp_onAcceptOk_27 : decode b_Rp_onAcceptOk 27 = .ok (.getfield 18, 3) := by decide +kernel
theorem d_Rp_onAcceptOk_30 : decode b_Rp_onAcceptOk 30 = .ok (.if_icmp .ne 23, 3) := by decide +kernel
theorem d_Rp_onAcceptOk_33 : decode b_Rp_onAcceptOk 33 = .ok (.aload_n 0, 1) := by decide +kernel
theorem d_Rp_onAcceptOk_34 : decode b_Rp_onAcceptOk 34 = .ok (.aload_n 1, 1) := by decide +kernel
theorem d_Rp_onAcceptOk_35 : decode b_Rp_onAcceptOk 35 = .ok (.getfield 92, 3) := by decide +kernel
theorem d_Rp_onAcceptOk_38 : decode b_Rp_onAcceptOk 38 = .ok (.aload_n 0, 1) := by decide +kernel
theorem d_Rp_onAcceptOk_39 : decode b_Rp_onAcceptOk 39 = .ok (.getfield 27, 3) := by decide +kernel
theorem d_Rp_onAcceptOk_42 : decode b_Rp_onAcceptOk 42 = .ok (.aload_n 1, 1) := by decide +kernel
theorem d_Rp_onAcceptOk_43 : decode b_Rp_onAcceptOk 43 = .ok (.getfield 92, 3) := by decide +kernel
theorem d_Rp_onAcceptOk_46 : decode b_Rp_onAcceptOk 46 = .ok (.aaload, 1) := by decide +kernel
theorem d_Rp_onAcceptOk_47 : decode b_Rp_onAcceptOk 47 = .ok (.getfield 102, 3) := by decide +kernel
theorem d_Rp_onAcceptOk_50 : decode b_Rp_onAcceptOk 50 = .ok (.invokevirtual 173, 3) := by decide +kernel
theorem d_Rp_onAcceptOk_53 : decode b_Rp_onAcceptOk 53 = .ok (.return_, 1) := by decide +kernel
theorem d_Rp_onCommit_0 : decode b_Rp_onCommit 0 = .ok (.aload_n 2, 1) := by decide +kernel
theorem d_Rp_onCommit_1 : decode b_Rp_onCommit 1 = .ok (.invokevirtual 99, 3) := by decide +kernel
theorem d_Rp_onCommit_4 : decode b_Rp_onCommit 4 = .ok (.ifCond .ne 12, 3) := by decide +kernel
theorem d_Rp_onCommit_7 : decode b_Rp_onCommit 7 = .ok (.aload_n 2, 1) := by decide +kernel
theorem d_Rp_onCommit_8 : decode b_Rp_onCommit 8 = .ok (.iconst 3, 1) := by decide +kernel
theorem d_Rp_onCommit_9 : decode b_Rp_onCommit 9 = .ok (.aload_n 1, 1) := by decide +kernel
theorem d_Rp_onCommit_10 : decode b_Rp_onCommit 10 = .ok (.getfield 141, 3) := by decide +kernel
theorem d_Rp_onCommit_13 : decode b_Rp_onCommit 13 = .ok (.invokevirtual 62, 3) := by decide +kernel
theorem d_Rp_onCommit_16 : decode b_Rp_onCommit 16 = .ok (.return_, 1) := by decide +kernel
theorem d_Rt_init_0 : decode b_Rt_init 0 = .ok (.aload_n 0, 1) := by decide +kernel
theorem d_Rt_init_1 : decode b_Rt_init 1 = .ok (.invokespecial 3, 3) := by decide +kernel
theorem d_Rt_init_4 : decode b_Rt_init 4 = .ok (.aload_n 0, 1) := by decide +kernel
theorem d_Rt_init_5 : decode b_Rt_init 5 = .ok (.iload_n 1, 1) := by decide +kernel
theorem d_Rt_init_6 : decode b_Rt_init 6 = .ok (.putfield 9, 3) := by decide +kernel
theorem d_Rt_init_9 : decode b_Rt_init 9 = .ok (.aload_n 0, 1) := by decide +kernel
theorem d_Rt_init_10 : decode b_Rt_init 10 = .ok (.aload_n 2, 1) := by decide +kernel
theorem d_Rt_init_11 : decode b_Rt_init 11 = .ok (.getfield 15, 3) := by decide +kernel
theorem d_Rt_init_14 : decode b_Rt_init 14 = .ok (.putfield 20, 3) := by decide +kernel
theorem d_Rt_init_17 : decode b_Rt_init 17 = .ok (.aload_n 0, 1) := by decide +kernel
theorem d_Rt_init_18 : decode b_Rt_init 18 = .ok (.aload_n 2, 1) := by decide +kernel
theorem d_Rt_init_19 : decode b_Rt_init 19 = .ok (.getfield 21, 3) := by decide +kernel
theorem d_Rt_init_22 : decode b_Rt_init 22 = .ok (.putfield 25, 3) := by decide +kernel
theorem d_Rt_init_25 : decode b_Rt_init 25 = .ok (.aload_n 0, 1) := by decide +kernel
theorem d_Rt_init_26 : decode b_Rt_init 26 = .ok (.aload_n 2, 1) := by decide +kernel
theorem d_Rt_init_27 : decode b_Rt_init 27 = .ok (.getfield 26, 3) := by decide +kernel
theorem d_Rt_init_30 : decode b_Rt_init 30 = .ok (.putfield 29, 3) := by decide +kernel
theorem d_Rt_init_33 : decode b_Rt_init 33 = .ok (.return_, 1) := by decide +kernel
theorem d_Rp_onPrepare_0 : decode b_Rp_onPrepare 0 = .ok (.aload_n 1, 1) := by decide +kernel
theorem d_Rp_onPrepare_1 : decode b_Rp_onPrepare 1 = .ok (.getfield 138, 3) := by decide +kernel
theorem d_Rp_onPrepare_4 : decode b_Rp_onPrepare 4 = .ok (.aload_n 2, 1) := by decide +kernel
theorem d_Rp_onPrepare_5 : decode b_Rp_onPrepare 5 = .ok (.getfield 50, 3) := by decide +kernel
theorem d_Rp_onPrepare_8 : decode b_Rp_onPrepare 8 = .ok (.if_icmp .gt 4, 3) := by decide +kernel
theorem d_Rp_onPrepare_11 : decode b_Rp_onPrepare 11 = .ok (.return_, 1) := by decide +kernel
theorem d_Rp_onPrepare_12 : decode b_Rp_onPrepare 12 = .ok (.aload_n 2, 1) := by decide +kernel
theorem d_Rp_onPrepare_13 : decode b_Rp_onPrepare 13 = .ok (.aload_n 1, 1) := by decide +kernel
theorem d_Rp_onPrepare_14 : decode b_Rp_onPrepare 14 = .ok (.getfield 138, 3) := by decide +kernel
theorem d_Rp_onPrepare_17 : decode b_Rp_onPrepare 17 = .ok (.putfield 50, 3) := by decide +kernel
theorem d_Rp_onPrepare_20 : decode b_Rp_onPrepare 20 = .ok (.aload_n 0, 1) := by decide +kernel
theorem d_Rp_onPrepare_21 : decode b_Rp_onPrepare 21 = .ok (.aload_n 1, 1) := by decide +kernel
theorem d_Rp_onPrepare_22 : decode b_Rp_onPrepare 22 = .ok (.bipush 6, 2) := by decide +kernel
theorem d_Rp_onPrepare_24 : decode b_Rp_onPrepare 24 = .ok (.aconst_null, 1) := by decide +kernel
theorem d_Rp_onPrepare_25 : decode b_Rp_onPrepare 25 = .ok (.new 180, 3) := by decide +kernel
theorem d_Rp_onPrepare_28 : decode b_Rp_onPrepare 28 = .ok (.dup, 1) := by decide +kernel
theorem d_Rp_onPrepare_29 : decode b_Rp_onPrepare 29 = .ok (.aload_n 0, 1) := by decide +kernel
theorem d_Rp_onPrepare_30 : decode b_Rp_onPrepare 30 = .ok (.getfield 9, 3) := by decide +kernel
theorem d_Rp_onPrepare_33 : decode b_Rp_onPrepare 33 = .ok (.aload_n 2, 1) := by decide +kernel
theorem d_Rp_onPrepare_34 : decode b_Rp_onPrepare 34 = .ok (.invokespecial 182, 3) := by decide +kernel
theorem d_Rp_onPrepare_37 : decode b_Rp_onPrepare 37 = .ok (.invokevirtual 106, 3) := by decide +kernel
theorem d_Rp_onPrepare_40 : decode b_Rp_onPrepare 40 = .ok (.return_, 1) := by decide +kernel
theorem d_At_countReport_0 : decode b_At_countReport 0 = .ok (.aload_n 0, 1) := by decide +kernel
theorem d_At_countReport_1 : decode b_At_countReport 1 = .ok (.getfield 28, 3) := by decide +kernel
theorem d_At_countReport_4 : decode b_At_countReport 4 = .ok (.aload_n 0, 1) := by decide +kernel
theorem d_At_countReport_5 : decode b_At_countReport 5 = .ok (.getfield 24, 3) := by decide +kernel
theorem d_At_countReport_8 : decode b_At_countReport 8 = .ok (.arraylength, 1) := by decide +kernel
theorem d_At_countReport_9 : decode b_At_countReport 9 = .ok (.if_icmp .ge 23, 3) := by decide +kernel
theorem d_At_countReport_12 : decode b_At_countReport 12 = .ok (.aload_n 0, 1) := by decide +kernel
theorem d_At_countReport_13 : decode b_At_countReport 13 = .ok (.getfield 24, 3) := by decide +kernel
theorem d_At_countReport_16 : decode b_At_countReport 16 = .ok (.aload_n 0, 1) := by decide +kernel
theorem d_At_countReport_17 : decode b_At_countReport 17 = .ok (.getfield 28, 3) := by decide +kernel
theorem d_At_countReport_20 : decode b_At_countReport 20 = .ok (.aload_n 1, 1) := by decide +kernel
theorem d_At_countReport_21 : decode b_At_countReport 21 = .ok (.aastore, 1) := by decide +kernel
theorem d_At_countReport_22 : decode b_At_countReport 22 = .ok (.aload_n 0, 1) := by decide +kernel
theorem d_At_countReport_23 : decode b_At_countReport 23 = .ok (.dup, 1) := by decide +kernel
theorem d_At_countReport_24 : decode b_At_countReport 24 = .ok (.getfield 28, 3) := by decide +kernel
theorem d_At_countReport_27 : decode b_At_countReport 27 = .ok (.iconst 1, 1) := by decide +kernel
theorem d_At_countReport_28 : decode b_At_countReport 28 = .ok (.iadd, 1) := by decide +kernel
theorem d_At_countReport_29 : decode b_At_countReport 29 = .ok (.putfield 28, 3) := by decide +kernel
theorem d_At_countReport_32 : decode b_At_countReport 32 = .ok (.return_, 1) := by decide +kernel
theorem d_At_lastAccepted_0 : decode b_At_lastAccepted 0 = .ok (.aconst_null, 1) := by decide +kernel
theorem d_At_lastAccepted_1 : decode b_At_lastAccepted 1 = .ok (.astore_n 1, 1) := by decide +kernel
theorem d_At_lastAccepted_2 : decode b_At_lastAccepted 2 = .ok (.iconst 0, 1) := by decide +kernel
theorem d_At_lastAccepted_3 : decode b_At_lastAccepted 3 = .ok (.istore_n 2, 1) := by decide +kernel
theorem d_At_lastAccepted_4 : decode b_At_lastAccepted 4 = .ok (.iload_n 2, 1) := by decide +kernel
theorem d_At_lastAccepted_5 : decode b_At_lastAccepted 5 = .ok (.aload_n 0, 1) := by decide +kernel
theorem d_At_lastAccepted_6 : decode b_At_lastAccepted 6 = .ok (.getfield 28, 3) := by decide +kernel
theorem d_At_lastAccepted_9 : decode b_At_lastAccepted 9 = .ok (.if_icmp .ge 41, 3) := by decide +kernel
theorem d_At_lastAccepted_12 : decode b_At_lastAccepted 12 = .ok (.aload_n 0, 1) := by decide +kernel
theorem d_At_lastAccepted_13 : decode b_At_lastAccepted 13 = .ok (.getfield 24, 3) := by decide +kernel
theorem d_At_lastAccepted_16 : decode b_At_lastAccepted 16 = .ok (.iload_n 2, 1) := by decide +kernel
theorem d_At_lastAccepted_17 : decode b_At_lastAccepted 17 = .ok (.aaload, 1) := by decide +kernel
theorem d_At_lastAccepted_18 : decode b_At_lastAccepted 18 = .ok (.astore_n 3, 1) := by decide +kernel
theorem d_At_lastAccepted_19 : decode b_At_lastAccepted 19 = .ok (.aload_n 3, 1) := by decide +kernel
theorem d_At_lastAccepted_20 : decode b_At_lastAccepted 20 = .ok (.getfield 54, 3) := by decide +kernel
theorem d_At_lastAccepted_23 : decode b_At_lastAccepted 23 = .ok (.iconst 2, 1) := by decide +kernel
theorem d_At_lastAccepted_24 : decode b_At_lastAccepted 24 = .ok (.if_icmp .ne 20, 3) := by decide +kernel
theorem d_At_lastAccepted_27 : decode b_At_lastAccepted 27 = .ok (.aload_n 1, 1) := by decide +kernel
theorem d_At_lastAccepted_28 : decode b_At_lastAccepted 28 = .ok (.ifnull 14, 3) := by decide +kernel
theorem d_At_lastAccepted_31 : decode b_At_lastAccepted 31 = .ok (.aload_n 3, 1) := by decide +kernel
theorem d_At_lastAccepted_32 : decode b_At_lastAccepted 32 = .ok (.getfield 57, 3) := by decide +kernel
theorem d_At_lastAccepted_35 : decode b_At_lastAccepted 35 = .ok (.aload_n 1, 1) := by decide +kernel
theorem d_At_lastAccepted_36 : decode b_At_lastAccepted 36 = .ok (.getfield 57, 3) := by decide +kernel
theorem d_At_lastAccepted_39 : decode b_At_lastAccepted 39 = .ok (.if_icmp .le 5, 3) := by decide +kernel
theorem d_At_lastAccepted_42 : decode b_At_lastAccepted 42 = .ok (.aload_n 3, 1) := by decide +kernel
theorem d_At_lastAccepted_43 : decode b_At_lastAccepted 43 = .ok (.astore_n 1, 1) := by decide +kernel
theorem d_At_lastAccepted_44 : decode b_At_lastAccepted 44 = .ok (.iinc 2 1, 3) := by decide +kernel
theorem d_At_lastAccepted_47 : decode b_At_lastAccepted 47 = .ok (.goto (-43), 3) := by decide +kernel
theorem d_At_lastAccepted_50 : decode b_At_lastAccepted 50 = .ok (.aload_n 1, 1) := by decide +kernel
theorem d_At_lastAccepted_51 : decode b_At_lastAccepted 51 = .ok (.areturn, 1) := by decide +kernel
theorem d_Rt_isFastVote_0 : decode b_Rt_isFastVote 0 = .ok (.aload_n 0, 1) := by decide +kernel
theorem d_Rt_isFastVote_1 : decode b_Rt_isFastVote 1 = .ok (.getfield 20, 3) := by decide +kernel
theorem d_Rt_isFastVote_4 : decode b_Rt_isFastVote 4 = .ok (.iconst 1, 1) := by decide +kernel
theorem d_Rt_isFastVote_5 : decode b_Rt_isFastVote 5 = .ok (.if_icmp .ne 22, 3) := by decide +kernel
theorem d_Rt_isFastVote_8 : decode b_Rt_isFastVote 8 = .ok (.aload_n 0, 1) := by decide +kernel
theorem d_Rt_isFastVote_9 : decode b_Rt_isFastVote 9 = .ok (.getfield 29, 3) := by decide +kernel
theorem d_Rt_isFastVote_12 : decode b_Rt_isFastVote 12 = .ok (.ifCond .ne 15, 3) := by decide +kernel
theorem d_Rt_isFastVote_15 : decode b_Rt_isFastVote 15 = .ok (.aload_n 0, 1) := by decide +kernel
theorem d_Rt_isFastVote_16 : decode b_Rt_isFastVote 16 = .ok (.getfield 9, 3) := by decide +kernel
theorem d_Rt_isFastVote_19 : decode b_Rt_isFastVote 19 = .ok (.iload_n 1, 1) := by decide +kernel
theorem d_Rt_isFastVote_20 : decode b_Rt_isFastVote 20 = .ok (.if_icmp .eq 7, 3) := by decide +kernel
theorem d_Rt_isFastVote_23 : decode b_Rt_isFastVote 23 = .ok (.iconst 1, 1) := by decide +kernel
theorem d_Rt_isFastVote_24 : decode b_Rt_isFastVote 24 = .ok (.goto 4, 3) := by decide +kernel
theorem d_Rt_isFastVote_27 : decode b_Rt_isFastVote 27 = .ok (.iconst 0, 1) := by decide +kernel
theorem d_Rt_isFastVote_28 : decode b_Rt_isFastVote 28 = .ok (.ireturn, 1) := by decide +kernel
theorem d_Or_agreesWith_0 : decode b_Or_agreesWith 0 = .ok (.aload_n 0, 1) := by decide +kernel
theorem d_Or_agreesWith_1 : decode b_Or_agreesWith 1 = .ok (.getfield 13, 3) := by decide +kernel
theorem d_Or_agreesWith_4 : decode b_Or_agreesWith 4 = .ok (.aload_n 1, 1) := by decide +kernel
theorem d_Or_agreesWith_5 : decode b_Or_agreesWith 5 = .ok (.getfield 13, 3) := by decide +kernel
theorem d_Or_agreesWith_8 : decode b_Or_agreesWith 8 = .ok (.if_icmp .ne 18, 3) := by decide +kernel
theorem d_Or_agreesWith_11 : decode b_Or_agreesWith 11 = .ok (.aload_n 0, 1) := by decide +kernel
theorem d_Or_agreesWith_12 : decode b_Or_agreesWith 12 = .ok (.getfield 17, 3) := by decide +kernel
theorem d_Or_agreesWith_15 : decode b_Or_agreesWith 15 = .ok (.aload_n 1, 1) := by decide +kernel
theorem d_Or_agreesWith_16 : decode b_Or_agreesWith 16 = .ok (.getfield 17, 3) := by decide +kernel
theorem d_Or_agreesWith_19 : decode b_Or_agreesWith 19 = .ok (.if_icmp .ne 7, 3) := by decide +kernel
theorem d_Or_agreesWith_22 : decode b_Or_agreesWith 22 = .ok (.iconst 1, 1) := by decide +kernel
theorem d_Or_agreesWith_23 : decode b_Or_agreesWith 23 = .ok (.goto 4, 3) := by decide +kernel
theorem d_Or_agreesWith_26 : decode b_Or_agreesWith 26 = .ok (.iconst 0, 1) := by decide +kernel
theorem d_Or_agreesWith_27 : decode b_Or_agreesWith 27 = .ok (.ireturn, 1) := by decide +kernel
theorem d_At_countSharers_0 : decode b_At_countSharers 0 = .ok (.iconst 0, 1) := by decide +kernel
theorem d_At_countSharers_1 : decode b_At_countSharers 1 = .ok (.istore_n 3, 1) := by decide +kernel
theorem d_At_countSharers_2 : decode b_At_countSharers 2 = .ok (.iconst 0, 1) := by decide +kernel
theorem d_At_countSharers_3 : decode b_At_countSharers 3 = .ok (.istore 4, 2) := by decide +kernel
theorem d_At_countSharers_5 : decode b_At_countSharers 5 = .ok (.iload 4, 2) := by decide +kernel
theorem d_At_countSharers_7 : decode b_At_countSharers 7 = .ok (.aload_n 0, 1) := by decide +kernel
theorem d_At_countSharers_8 : decode b_At_countSharers 8 = .ok (.getfield 28, 3) := by decide +kernel
theorem d_At_countSharers_11 : decode b_At_countSharers 11 = .ok (.if_icmp .ge 43, 3) := by decide +kernel
theorem d_At_countSharers_14 : decode b_At_countSharers 14 = .ok (.aload_n 0, 1) := by decide +kernel
theorem d_At_countSharers_15 : decode b_At_countSharers 15 = .ok (.getfield 24, 3) := by decide +kernel
theorem d_At_countSharers_18 : decode b_At_countSharers 18 = .ok (.iload 4, 2) := by decide +kernel
theorem d_At_countSharers_20 : decode b_At_countSharers 20 = .ok (.aaload, 1) := by decide +kernel
theorem d_At_countSharers_21 : decode b_At_countSharers 21 = .ok (.iload_n 2, 1) := by decide +kernel
theorem d_At_countSharers_22 : decode b_At_countSharers 22 = .ok (.invokevirtual 60, 3) := by decide +kernel
theorem d_At_countSharers_25 : decode b_At_countSharers 25 = .ok (.ifCond .eq 23, 3) := by decide +kernel
theorem d_At_countSharers_28 : decode b_At_countSharers 28 = .ok (.aload_n 0, 1) := by decide +kernel
theorem d_At_countSharers_29 : decode b_At_countSharers 29 = .ok (.getfield 24, 3) := by decide +kernel
theorem d_At_countSharers_32 : decode b_At_countSharers 32 = .ok (.iload 4, 2) := by decide +kernel
theorem d_At_countSharers_34 : decode b_At_countSharers 34 = .ok (.aaload, 1) := by decide +kernel
theorem d_At_countSharers_35 : decode b_At_countSharers 35 = .ok (.getfield 64, 3) := by decide +kernel
theorem d_At_countSharers_38 : decode b_At_countSharers 38 = .ok (.aload_n 1, 1) := by decide +kernel
theorem d_At_countSharers_39 : decode b_At_countSharers 39 = .ok (.invokevirtual 72, 3) := by decide +kernel
theorem d_At_countSharers_42 : decode b_At_countSharers 42 = .ok (.ifCond .eq 6, 3) := by decide +kernel
theorem d_At_countSharers_45 : decode b_At_countSharers 45 = .ok (.iinc 3 1, 3) := by decide +kernel
theorem d_At_countSharers_48 : decode b_At_countSharers 48 = .ok (.iinc 4 1, 3) := by decide +kernel
theorem d_At_countSharers_51 : decode b_At_countSharers 51 = .ok (.goto (-46), 3) := by decide +kernel
theorem d_At_countSharers_54 : decode b_At_countSharers 54 = .ok (.iload_n 3, 1) := by decide +kernel
theorem d_At_countSharers_55 : decode b_At_countSharers 55 = .ok (.ireturn, 1) := by decide +kernel
theorem d_At_sharedFastVote_0 : decode b_At_sharedFastVote 0 = .ok (.iconst 0, 1) := by decide +kernel
theorem d_At_sharedFastVote_1 : decode b_At_sharedFastVote 1 = .ok (.istore_n 3, 1) := by decide +kernel
theorem d_At_sharedFastVote_2 : decode b_At_sharedFastVote 2 = .ok (.iload_n 3, 1) := by decide +kernel
theorem d_At_sharedFastVote_3 : decode b_At_sharedFastVote 3 = .ok (.aload_n 0, 1) := by decide +kernel
theorem d_At_sharedFastVote_4 : decode b_At_sharedFastVote 4 = .ok (.getfield 28, 3) := by decide +kernel
theorem d_At_sharedFastVote_7 : decode b_At_sharedFastVote 7 = .ok (.if_icmp .ge 47, 3) := by decide +kernel
theorem d_At_sharedFastVote_10 : decode b_At_sharedFastVote 10 = .ok (.aload_n 0, 1) := by decide +kernel
theorem d_At_sharedFastVote_11 : decode b_At_sharedFastVote 11 = .ok (.getfield 24, 3) := by decide +kernel
theorem d_At_sharedFastVote_14 : decode b_At_sharedFastVote 14 = .ok (.iload_n 3, 1) := by decide +kernel
theorem d_At_sharedFastVote_15 : decode b_At_sharedFastVote 15 = .ok (.aaload, 1) := by decide +kernel
theorem d_At_sharedFastVote_16 : decode b_At_sharedFastVote 16 = .ok (.iload_n 1, 1) := by decide +kernel
theorem d_At_sharedFastVote_17 : decode b_At_sharedFastVote 17 = .ok (.invokevirtual 60, 3) := by decide +kernel
theorem d_At_sharedFastVote_20 : decode b_At_sharedFastVote 20 = .ok (.ifCond .eq 28, 3) := by decide +kernel
theorem d_At_sharedFastVote_23 : decode b_At_sharedFastVote 23 = .ok (.aload_n 0, 1) := by decide +kernel
theorem d_At_sharedFastVote_24 : decode b_At_sharedFastVote 24 = .ok (.aload_n 0, 1) := by decide +kernel
theorem d_At_sharedFastVote_25 : decode b_At_sharedFastVote 25 = .ok (.getfield 24, 3) := by decide +kernel
theorem d_At_sharedFastVote_28 : decode b_At_sharedFastVote 28 = .ok (.iload_n 3, 1) := by decide +kernel
theorem d_At_sharedFastVote_29 : decode b_At_sharedFastVote 29 = .ok (.aaload, 1) := by decide +kernel
theorem d_At_sharedFastVote_30 : decode b_At_sharedFastVote 30 = .ok (.getfield 64, 3) := by decide +kernel
theorem d_At_sharedFastVote_33 : decode b_At_sharedFastVote 33 = .ok (.iload_n 1, 1) := by decide +kernel
theorem d_At_sharedFastVote_34 : decode b_At_sharedFastVote 34 = .ok (.invokevirtual 68, 3) := by decide +kernel
theorem d_At_sharedFastVote_37 : decode b_At_sharedFastVote 37 = .ok (.iload_n 2, 1) := by decide +kernel
theorem d_At_sharedFastVote_38 : decode b_At_sharedFastVote 38 = .ok (.if_icmp .lt 10, 3) := by decide +kernel
theorem d_At_sharedFastVote_41 : decode b_At_sharedFastVote 41 = .ok (.aload_n 0, 1) := by decide +kernel
theorem d_At_sharedFastVote_42 : decode b_At_sharedFastVote 42 = .ok (.getfield 24, 3) := by decide +kernel
theorem d_At_sharedFastVote_45 : decode b_At_sharedFastVote 45 = .ok (.iload_n 3, 1) := by decide +kernel
theorem d_At_sharedFastVote_46 : decode b_At_sharedFastVote 46 = .ok (.aaload, 1) := by decide +kernel
theorem d_At_sharedFastVote_47 : decode b_At_sharedFastVote 47 = .ok (.areturn, 1) := by decide +kernel
theorem d_At_sharedFastVote_48 : decode b_At_sharedFastVote 48 = .ok (.iinc 3 1, 3) := by decide +kernel
theorem d_At_sharedFastVote_51 : decode b_At_sharedFastVote 51 = .ok (.goto (-49), 3) := by decide +kernel
theorem d_At_sharedFastVote_54 : decode b_At_sharedFastVote 54 = .ok (.aconst_null, 1) := by decide +kernel
theorem d_At_sharedFastVote_55 : decode b_At_sharedFastVote 55 = .ok (.areturn, 1) := by decide +kernel
theorem d_At_firstPreaccepted_0 : decode b_At_firstPreaccepted 0 = .ok (.iconst 0, 1) := by decide +kernel
theorem d_At_firstPreaccepted_1 : decode b_At_firstPreaccepted 1 = .ok (.istore_n 1, 1) := by decide +kernel
theorem d_At_firstPreaccepted_2 : decode b_At_firstPreaccepted 2 = .ok (.iload_n 1, 1) := by decide +kernel
theorem d_At_firstPreaccepted_3 : decode b_At_firstPreaccepted 3 = .ok (.aload_n 0, 1) := by decide +kernel
theorem d_At_firstPreaccepted_4 : decode b_At_firstPreaccepted 4 = .ok (.getfield 28, 3) := by decide +kernel
theorem d_At_firstPreaccepted_7 : decode b_At_firstPreaccepted 7 = .ok (.if_icmp .ge 29, 3) := by decide +kernel
theorem d_At_firstPreaccepted_10 : decode b_At_firstPreaccepted 10 = .ok (.aload_n 0, 1) := by decide +kernel
theorem d_At_firstPreaccepted_11 : decode b_At_firstPreaccepted 11 = .ok (.getfield 24, 3) := by decide +kernel
theorem d_At_firstPreaccepted_14 : decode b_At_firstPreaccepted 14 = .ok (.iload_n 1, 1) := by decide +kernel
theorem d_At_firstPreaccepted_15 : decode b_At_firstPreaccepted 15 = .ok (.aaload, 1) := by decide +kernel
theorem d_At_firstPreaccepted_16 : decode b_At_firstPreaccepted 16 = .ok (.getfield 54, 3) := by decide +kernel
theorem d_At_firstPreaccepted_19 : decode b_At_firstPreaccepted 19 = .ok (.iconst 1, 1) := by decide +kernel
theorem d_At_firstPreaccepted_20 : decode b_At_firstPreaccepted 20 = .ok (.if_icmp .ne 10, 3) := by decide +kernel
theorem d_At_firstPreaccepted_23 : decode b_At_firstPreaccepted 23 = .ok (.aload_n 0, 1) := by decide +kernel
theorem d_At_firstPreaccepted_24 : decode b_At_firstPreaccepted 24 = .ok (.getfield 24, 3) := by decide +kernel
theorem d_At_firstPreaccepted_27 : decode b_At_firstPreaccepted 27 = .ok (.iload_n 1, 1) := by decide +kernel
theorem d_At_firstPreaccepted_28 : decode b_At_firstPreaccepted 28 = .ok (.aaload, 1) := by decide +kernel
theorem d_At_firstPreaccepted_29 : decode b_At_firstPreaccepted 29 = .ok (.areturn, 1) := by decide +kernel
theorem d_At_firstPreaccepted_30 : decode b_At_firstPreaccepted 30 = .ok (.iinc 1 1, 3) := by decide +kernel
theorem d_At_firstPreaccepted_33 : decode b_At_firstPreaccepted 33 = .ok (.goto (-31), 3) := by decide +kernel
theorem d_At_firstPreaccepted_36 : decode b_At_firstPreaccepted 36 = .ok (.aconst_null, 1) := by decide +kernel
theorem d_At_firstPreaccepted_37 : decode b_At_firstPreaccepted 37 = .ok (.areturn, 1) := by decide +kernel
theorem d_Rp_preacceptAgain_0 : decode b_Rp_preacceptAgain 0 = .ok (.aload_n 0, 1) := by decide +kernel
theorem d_Rp_preacceptAgain_1 : decode b_Rp_preacceptAgain 1 = .ok (.iload_n 1, 1) := by decide +kernel
theorem d_Rp_preacceptAgain_2 : decode b_Rp_preacceptAgain 2 = .ok (.new 53, 3) := by decide +kernel
theorem d_Rp_preacceptAgain_5 : decode b_Rp_preacceptAgain 5 = .ok (.dup, 1) := by decide +kernel
theorem d_Rp_preacceptAgain_6 : decode b_Rp_preacceptAgain 6 = .ok (.aload_n 3, 1) := by decide +kernel
theorem d_Rp_preacceptAgain_7 : decode b_Rp_preacceptAgain 7 = .ok (.iconst 1, 1) := by decide +kernel
theorem d_Rp_preacceptAgain_8 : decode b_Rp_preacceptAgain 8 = .ok (.iconst 0, 1) := by decide +kernel
theorem d_Rp_preacceptAgain_9 : decode b_Rp_preacceptAgain 9 = .ok (.invokespecial 55, 3) := by decide +kernel
theorem d_Rp_preacceptAgain_12 : decode b_Rp_preacceptAgain 12 = .ok (.invokevirtual 58, 3) := by decide +kernel
theorem d_Rp_preacceptAgain_15 : decode b_Rp_preacceptAgain 15 = .ok (.astore 4, 2) := by decide +kernel
theorem d_Rp_preacceptAgain_17 : decode b_Rp_preacceptAgain 17 = .ok (.aload_n 0, 1) := by decide +kernel
theorem d_Rp_preacceptAgain_18 : decode b_Rp_preacceptAgain 18 = .ok (.getfield 27, 3) := by decide +kernel
theorem d_Rp_preacceptAgain_21 : decode b_Rp_preacceptAgain 21 = .ok (.iload_n 1, 1) := by decide +kernel
theorem d_Rp_preacceptAgain_22 : decode b_Rp_preacceptAgain 22 = .ok (.aaload, 1) := by decide +kernel
theorem d_Rp_preacceptAgain_23 : decode b_Rp_preacceptAgain 23 = .ok (.iconst 1, 1) := by decide +kernel
theorem d_Rp_preacceptAgain_24 : decode b_Rp_preacceptAgain 24 = .ok (.aload 4, 2) := by decide +kernel
theorem d_Rp_preacceptAgain_26 : decode b_Rp_preacceptAgain 26 = .ok (.aload_n 2, 1) := by decide +kernel
theorem d_Rp_preacceptAgain_27 : decode b_Rp_preacceptAgain 27 = .ok (.getfield 218, 3) := by decide +kernel
theorem d_Rp_preacceptAgain_30 : decode b_Rp_preacceptAgain 30 = .ok (.invokevirtual 142, 3) := by decide +kernel
theorem d_Rp_preacceptAgain_33 : decode b_Rp_preacceptAgain 33 = .ok (.aload_n 2, 1) := by decide +kernel
theorem d_Rp_preacceptAgain_34 : decode b_Rp_preacceptAgain 34 = .ok (.iconst 1, 1) := by decide +kernel
theorem d_Rp_preacceptAgain_35 : decode b_Rp_preacceptAgain 35 = .ok (.invokevirtual 219, 3) := by decide +kernel
theorem d_Rp_preacceptAgain_38 : decode b_Rp_preacceptAgain 38 = .ok (.aload_n 0, 1) := by decide +kernel
theorem d_Rp_preacceptAgain_39 : decode b_Rp_preacceptAgain 39 = .ok (.iconst 0, 1) := by decide +kernel
theorem d_Rp_preacceptAgain_40 : decode b_Rp_preacceptAgain 40 = .ok (.iload_n 1, 1) := by decide +kernel
theorem d_Rp_preacceptAgain_41 : decode b_Rp_preacceptAgain 41 = .ok (.aload_n 2, 1) := by decide +kernel
theorem d_Rp_preacceptAgain_42 : decode b_Rp_preacceptAgain 42 = .ok (.getfield 218, 3) := by decide +kernel
theorem d_Rp_preacceptAgain_45 : decode b_Rp_preacceptAgain 45 = .ok (.aload 4, 2) := by decide +kernel
theorem d_Rp_preacceptAgain_47 : decode b_Rp_preacceptAgain 47 = .ok (.invokevirtual 84, 3) := by decide +kernel
theorem d_Rp_preacceptAgain_50 : decode b_Rp_preacceptAgain 50 = .ok (.return_, 1) := by decide +kernel
theorem d_Rp_finishOpen_0 : decode b_Rp_finishOpen 0 = .ok (.aload_n 2, 1) := by decide +kernel
theorem d_Rp_finishOpen_1 : decode b_Rp_finishOpen 1 = .ok (.invokevirtual 197, 3) := by decide +kernel
theorem d_Rp_finishOpen_4 : decode b_Rp_finishOpen 4 = .ok (.astore_n 3, 1) := by decide +kernel
theorem d_Rp_finishOpen_5 : decode b_Rp_finishOpen 5 = .ok (.aload_n 2, 1) := by decide +kernel
theorem d_Rp_finishOpen_6 : decode b_Rp_finishOpen 6 = .ok (.iload_n 1, 1) := by decide +kernel
theorem d_Rp_finishOpen_7 : decode b_Rp_finishOpen 7 = .ok (.bipush 6, 2) := by decide +kernel
theorem d_Rp_finishOpen_9 : decode b_Rp_finishOpen 9 = .ok (.idiv, 1) := by decide +kernel
theorem d_Rp_finishOpen_10 : decode b_Rp_finishOpen 10 = .ok (.aload_n 0, 1) := by decide +kernel
theorem d_Rp_finishOpen_11 : decode b_Rp_finishOpen 11 = .ok (.getfield 18, 3) := by decide +kernel
theorem d_Rp_finishOpen_14 : decode b_Rp_finishOpen 14 = .ok (.invokevirtual 201, 3) := by decide +kernel
theorem d_Rp_finishOpen_17 : decode b_Rp_finishOpen 17 = .ok (.astore 4, 2) := by decide +kernel
theorem d_Rp_finishOpen_19 : decode b_Rp_finishOpen 19 = .ok (.aload_n 2, 1) := by decide +kernel
theorem d_Rp_finishOpen_20 : decode b_Rp_finishOpen 20 = .ok (.invokevirtual 205, 3) := by decide +kernel
theorem d_Rp_finishOpen_23 : decode b_Rp_finishOpen 23 = .ok (.astore 5, 2) := by decide +kernel
theorem d_Rp_finishOpen_25 : decode b_Rp_finishOpen 25 = .ok (.aload_n 3, 1) := by decide +kernel
theorem d_Rp_finishOpen_26 : decode b_Rp_finishOpen 26 = .ok (.ifnull 16, 3) := by decide +kernel
theorem d_Rp_finishOpen_29 : decode b_Rp_finishOpen 29 = .ok (.aload_n 0, 1) := by decide +kernel
theorem d_Rp_finishOpen_30 : decode b_Rp_finishOpen 30 = .ok (.iload_n 1, 1) := by decide +kernel
theorem d_Rp_finishOpen_31 : decode b_Rp_finishOpen 31 = .ok (.aload_n 2, 1) := by decide +kernel
theorem d_Rp_finishOpen_32 : decode b_Rp_finishOpen 32 = .ok (.aload_n 3, 1) := by decide +kernel
theorem d_Rp_finishOpen_33 : decode b_Rp_finishOpen 33 = .ok (.getfield 208, 3) := by decide +kernel
theorem d_Rp_finishOpen_36 : decode b_Rp_finishOpen 36 = .ok (.invokevirtual 176, 3) := by decide +kernel
theorem d_Rp_finishOpen_39 : decode b_Rp_finishOpen 39 = .ok (.goto 69, 3) := by decide +kernel
theorem d_Rp_finishOpen_42 : decode b_Rp_finishOpen 42 = .ok (.aload 4, 2) := by decide +kernel
theorem d_Rp_finishOpen_44 : decode b_Rp_finishOpen 44 = .ok (.ifnull 17, 3) := by decide +kernel
theorem d_Rp_finishOpen_47 : decode b_Rp_finishOpen 47 = .ok (.aload_n 0, 1) := by decide +kernel
theorem d_Rp_finishOpen_48 : decode b_Rp_finishOpen 48 = .ok (.iload_n 1, 1) := by decide +kernel
theorem d_Rp_finishOpen_49 : decode b_Rp_finishOpen 49 = .ok (.aload_n 2, 1) := by decide +kernel
theorem d_Rp_finishOpen_50 : decode b_Rp_finishOpen 50 = .ok (.aload 4, 2) := by decide +kernel
theorem d_Rp_finishOpen_52 : decode b_Rp_finishOpen 52 = .ok (.getfield 208, 3) := by decide +kernel
theorem d_Rp_finishOpen_55 : decode b_Rp_finishOpen 55 = .ok (.invokevirtual 176, 3) := by decide +kernel
theorem d_Rp_finishOpen_58 : decode b_Rp_finishOpen 58 = .ok (.goto 50, 3) := by decide +kernel
theorem d_Rp_finishOpen_61 : decode b_Rp_finishOpen 61 = .ok (.aload 5, 2) := by decide +kernel
theorem d_Rp_finishOpen_63 : decode b_Rp_finishOpen 63 = .ok (.ifnull 20, 3) := by decide +kernel
theorem d_Rp_finishOpen_66 : decode b_Rp_finishOpen 66 = .ok (.aload_n 0, 1) := by decide +kernel
theorem d_Rp_finishOpen_67 : decode b_Rp_finishOpen 67 = .ok (.iload_n 1, 1) := by decide +kernel
theorem d_Rp_finishOpen_68 : decode b_Rp_finishOpen 68 = .ok (.aload_n 2, 1) := by decide +kernel
theorem d_Rp_finishOpen_69 : decode b_Rp_finishOpen 69 = .ok (.aload 5, 2) := by decide +kernel
theorem d_Rp_finishOpen_71 : decode b_Rp_finishOpen 71 = .ok (.getfield 208, 3) := by decide +kernel
theorem d_Rp_finishOpen_74 : decode b_Rp_finishOpen 74 = .ok (.getfield 154, 3) := by decide +kernel
theorem d_Rp_finishOpen_77 : decode b_Rp_finishOpen 77 = .ok (.invokevirtual 209, 3) := by decide +kernel
theorem d_Rp_finishOpen_80 : decode b_Rp_finishOpen 80 = .ok (.goto 28, 3) := by decide +kernel
theorem d_Rp_finishOpen_83 : decode b_Rp_finishOpen 83 = .ok (.aload_n 0, 1) := by decide +kernel
theorem d_Rp_finishOpen_84 : decode b_Rp_finishOpen 84 = .ok (.iload_n 1, 1) := by decide +kernel
theorem d_Rp_finishOpen_85 : decode b_Rp_finishOpen 85 = .ok (.aload_n 2, 1) := by decide +kernel
theorem d_Rp_finishOpen_86 : decode b_Rp_finishOpen 86 = .ok (.new 53, 3) := by decide +kernel
theorem d_Rp_finishOpen_89 : decode b_Rp_finishOpen 89 = .ok (.dup, 1) := by decide +kernel
theorem d_Rp_finishOpen_90 : decode b_Rp_finishOpen 90 = .ok (.new 213, 3) := by decide +kernel
theorem d_Rp_finishOpen_93 : decode b_Rp_finishOpen 93 = .ok (.dup, 1) := by decide +kernel
theorem d_Rp_finishOpen_94 : decode b_Rp_finishOpen 94 = .ok (.iconst 2, 1) := by decide +kernel
theorem d_Rp_finishOpen_95 : decode b_Rp_finishOpen 95 = .ok (.iconst 0, 1) := by decide +kernel
theorem d_Rp_finishOpen_96 : decode b_Rp_finishOpen 96 = .ok (.iconst 0, 1) := by decide +kernel
theorem d_Rp_finishOpen_97 : decode b_Rp_finishOpen 97 = .ok (.invokespecial 215, 3) := by decide +kernel
theorem d_Rp_finishOpen_100 : decode b_Rp_finishOpen 100 = .ok (.iconst 0, 1) := by decide +kernel
theorem d_Rp_finishOpen_101 : decode b_Rp_finishOpen 101 = .ok (.iconst 0, 1) := by decide +kernel
theorem d_Rp_finishOpen_102 : decode b_Rp_finishOpen 102 = .ok (.invokespecial 55, 3) := by decide +kernel
theorem d_Rp_finishOpen_105 : decode b_Rp_finishOpen 105 = .ok (.invokevirtual 176, 3) := by decide +kernel
theorem d_Rp_finishOpen_108 : decode b_Rp_finishOpen 108 = .ok (.return_, 1) := by decide +kernel
theorem d_Rp_onPromise_0 : decode b_Rp_onPromise 0 = .ok (.aload_n 0, 1) := by decide +kernel
theorem d_Rp_onPromise_1 : decode b_Rp_onPromise 1 = .ok (.aload_n 1, 1) := by decide +kernel
theorem d_Rp_onPromise_2 : decode b_Rp_onPromise 2 = .ok (.iconst 0, 1) := by decide +kernel
theorem d_Rp_onPromise_3 : decode b_Rp_onPromise 3 = .ok (.invokevirtual 146, 3) := by decide +kernel
theorem d_Rp_onPromise_6 : decode b_Rp_onPromise 6 = .ok (.astore_n 3, 1) := by decide +kernel
theorem d_Rp_onPromise_7 : decode b_Rp_onPromise 7 = .ok (.aload_n 3, 1) := by decide +kernel
theorem d_Rp_onPromise_8 : decode b_Rp_onPromise 8 = .ok (.ifnonnull 4, 3) := by decide +kernel
theorem d_Rp_onPromise_11 : decode b_Rp_onPromise 11 = .ok (.return_, 1) := by decide +kernel
theorem d_Rp_onPromise_12 : decode b_Rp_onPromise 12 = .ok (.aload_n 3, 1) := by decide +kernel
theorem d_Rp_onPromise_13 : decode b_Rp_onPromise 13 = .ok (.aload_n 1, 1) := by decide +kernel
theorem d_Rp_onPromise_14 : decode b_Rp_onPromise 14 = .ok (.getfield 185, 3) := by decide +kernel
theorem d_Rp_onPromise_17 : decode b_Rp_onPromise 17 = .ok (.invokevirtual 189, 3) := by decide +kernel
theorem d_Rp_onPromise_20 : decode b_Rp_onPromise 20 = .ok (.aload_n 3, 1) := by decide +kernel
theorem d_Rp_onPromise_21 : decode b_Rp_onPromise 21 = .ok (.getfield 170, 3) := by decide +kernel
theorem d_Rp_onPromise_24 : decode b_Rp_onPromise 24 = .ok (.aload_n 0, 1) := by decide +kernel
theorem d_Rp_onPromise_25 : decode b_Rp_onPromise 25 = .ok (.getfield 18, 3) := by decide +kernel
theorem d_Rp_onPromise_28 : decode b_Rp_onPromise 28 = .ok (.if_icmp .ne 28, 3) := by decide +kernel
theorem d_Rp_onPromise_31 : decode b_Rp_onPromise 31 = .ok (.aload_n 3, 1) := by decide +kernel
theorem d_Rp_onPromise_32 : decode b_Rp_onPromise 32 = .ok (.new 180, 3) := by decide +kernel
theorem d_Rp_onPromise_35 : decode b_Rp_onPromise 35 = .ok (.dup, 1) := by decide +kernel
theorem d_Rp_onPromise_36 : decode b_Rp_onPromise 36 = .ok (.aload_n 0, 1) := by decide +kernel
theorem d_Rp_onPromise_37 : decode b_Rp_onPromise 37 = .ok (.getfield 9, 3) := by decide +kernel
theorem d_Rp_onPromise_40 : decode b_Rp_onPromise 40 = .ok (.aload_n 2, 1) := by decide +kernel
theorem d_Rp_onPromise_41 : decode b_Rp_onPromise 41 = .ok (.invokespecial 182, 3) := by decide +kernel
theorem d_Rp_onPromise_44 : decode b_Rp_onPromise 44 = .ok (.invokevirtual 189, 3) := by decide +kernel
theorem d_Rp_onPromise_47 : decode b_Rp_onPromise 47 = .ok (.aload_n 0, 1) := by decide +kernel
theorem d_Rp_onPromise_48 : decode b_Rp_onPromise 48 = .ok (.aload_n 1, 1) := by decide +kernel
theorem d_Rp_onPromise_49 : decode b_Rp_onPromise 49 = .ok (.getfield 92, 3) := by decide +kernel
theorem d_Rp_onPromise_52 : decode b_Rp_onPromise 52 = .ok (.aload_n 3, 1) := by decide +kernel
theorem d_Rp_onPromise_53 : decode b_Rp_onPromise 53 = .ok (.invokevirtual 193, 3) := by decide +kernel
theorem d_Rp_onPromise_56 : decode b_Rp_onPromise 56 = .ok (.return_, 1) := by decide +kernel
theorem d_Rp_receive_0 : decode b_Rp_receive 0 = .ok (.aload_n 0, 1) := by decide +kernel
theorem d_Rp_receive_1 : decode b_Rp_receive 1 = .ok (.getfield 88, 3) := by decide +kernel
theorem d_Rp_receive_4 : decode b_Rp_receive 4 = .ok (.ifCond .eq 4, 3) := by decide +kernel
theorem d_Rp_receive_7 : decode b_Rp_receive 7 = .ok (.return_, 1) := by decide +kernel
theorem d_Rp_receive_8 : decode b_Rp_receive 8 = .ok (.aload_n 0, 1) := by decide +kernel
theorem d_Rp_receive_9 : decode b_Rp_receive 9 = .ok (.getfield 27, 3) := by decide +kernel
theorem d_Rp_receive_12 : decode b_Rp_receive 12 = .ok (.aload_n 1, 1) := by decide +kernel
theorem d_Rp_receive_13 : decode b_Rp_receive 13 = .ok (.getfield 92, 3) := by decide +kernel
theorem d_Rp_receive_16 : decode b_Rp_receive 16 = .ok (.aaload, 1) := by decide +kernel
theorem d_Rp_receive_17 : decode b_Rp_receive 17 = .ok (.astore_n 2, 1) := by decide +kernel
theorem d_Rp_receive_18 : decode b_Rp_receive 18 = .ok (.aload_n 1, 1) := by decide +kernel
theorem d_Rp_receive_19 : decode b_Rp_receive 19 = .ok (.invokevirtual 95, 3) := by decide +kernel
theorem d_Rp_receive_22 : decode b_Rp_receive 22 = .ok (.ifCond .eq 22, 3) := by decide +kernel
theorem d_Rp_receive_25 : decode b_Rp_receive 25 = .ok (.aload_n 2, 1) := by decide +kernel
theorem d_Rp_receive_26 : decode b_Rp_receive 26 = .ok (.invokevirtual 99, 3) := by decide +kernel
theorem d_Rp_receive_29 : decode b_Rp_receive 29 = .ok (.ifCond .eq 15, 3) := by decide +kernel
theorem d_Rp_receive_32 : decode b_Rp_receive 32 = .ok (.aload_n 0, 1) := by decide +kernel
theorem d_Rp_receive_33 : decode b_Rp_receive 33 = .ok (.aload_n 1, 1) := by decide +kernel
theorem d_Rp_receive_34 : decode b_Rp_receive 34 = .ok (.iconst 4, 1) := by decide +kernel
theorem d_Rp_receive_35 : decode b_Rp_receive 35 = .ok (.aload_n 2, 1) := by decide +kernel
theorem d_Rp_receive_36 : decode b_Rp_receive 36 = .ok (.getfield 102, 3) := by decide +kernel
theorem d_Rp_receive_39 : decode b_Rp_receive 39 = .ok (.aconst_null, 1) := by decide +kernel
theorem d_Rp_receive_40 : decode b_Rp_receive 40 = .ok (.invokevirtual 106, 3) := by decide +kernel
theorem d_Rp_receive_43 : decode b_Rp_receive 43 = .ok (.return_, 1) := by decide +kernel
theorem d_Rp_receive_44 : decode b_Rp_receive 44 = .ok (.aload_n 1, 1) := by decide +kernel
theorem d_Rp_receive_45 : decode b_Rp_receive 45 = .ok (.getfield 110, 3) := by decide +kernel
theorem d_Rp_receive_48 : decode b_Rp_receive 48 = .ok (.tableswitch 105 0 6 #[44, 53, 61, 70, 78, 87, 96], 44) := by decide +kernel
theorem d_Rp_receive_92 : decode b_Rp_receive 92 = .ok (.aload_n 0, 1) := by decide +kernel
theorem d_Rp_receive_93 : decode b_Rp_receive 93 = .ok (.aload_n 1, 1) := by decide +kernel
theorem d_Rp_receive_94 : decode b_Rp_receive 94 = .ok (.aload_n 2, 1) := by decide +kernel
theorem d_Rp_receive_95 : decode b_Rp_receive 95 = .ok (.invokevirtual 113, 3) := by decide +kernel
theorem d_Rp_receive_98 : decode b_Rp_receive 98 = .ok (.goto 55, 3) := by decide +kernel
theorem d_Rp_receive_101 : decode b_Rp_receive 101 = .ok (.aload_n 0, 1) := by decide +kernel
theorem d_Rp_receive_102 : decode b_Rp_receive 102 = .ok (.aload_n 1, 1) := by decide +kernel
theorem d_Rp_receive_103 : decode b_Rp_receive 103 = .ok (.invokevirtual 117, 3) := by decide +kernel
theorem d_Rp_receive_106 : decode b_Rp_receive 106 = .ok (.goto 47, 3) := by decide +kernel
theorem d_Rp_receive_109 : decode b_Rp_receive 109 = .ok (.aload_n 0, 1) := by decide +kernel
theorem d_Rp_receive_110 : decode b_Rp_receive 110 = .ok (.aload_n 1, 1) := by decide +kernel
theorem d_Rp_receive_111 : decode b_Rp_receive 111 = .ok (.aload_n 2, 1) := by decide +kernel
theorem d_Rp_receive_112 : decode b_Rp_receive 112 = .ok (.invokevirtual 120, 3) := by decide +kernel
theorem d_Rp_receive_115 : decode b_Rp_receive 115 = .ok (.goto 38, 3) := by decide +kernel
theorem d_Rp_receive_118 : decode b_Rp_receive 118 = .ok (.aload_n 0, 1) := by decide +kernel
theorem d_Rp_receive_119 : decode b_Rp_receive 119 = .ok (.aload_n 1, 1) := by decide +kernel
theorem d_Rp_receive_120 : decode b_Rp_receive 120 = .ok (.invokevirtual 123, 3) := by decide +kernel
theorem d_Rp_receive_123 : decode b_Rp_receive 123 = .ok (.goto 30, 3) := by decide +kernel
theorem d_Rp_receive_126 : decode b_Rp_receive 126 = .ok (.aload_n 0, 1) := by decide +kernel
theorem d_Rp_receive_127 : decode b_Rp_receive 127 = .ok (.aload_n 1, 1) := by decide +kernel
theorem d_Rp_receive_128 : decode b_Rp_receive 128 = .ok (.aload_n 2, 1) := by decide +kernel
theorem d_Rp_receive_129 : decode b_Rp_receive 129 = .ok (.invokevirtual 126, 3) := by decide +kernel
theorem d_Rp_receive_132 : decode b_Rp_receive 132 = .ok (.goto 21, 3) := by decide +kernel
theorem d_Rp_receive_135 : decode b_Rp_receive 135 = .ok (.aload_n 0, 1) := by decide +kernel
theorem d_Rp_receive_136 : decode b_Rp_receive 136 = .ok (.aload_n 1, 1) := by decide +kernel
theorem d_Rp_receive_137 : decode b_Rp_receive 137 = .ok (.aload_n 2, 1) := by decide +kernel
theorem d_Rp_receive_138 : decode b_Rp_receive 138 = .ok (.invokevirtual 129, 3) := by decide +kernel
theorem d_Rp_receive_141 : decode b_Rp_receive 141 = .ok (.goto 12, 3) := by decide +kernel
theorem d_Rp_receive_144 : decode b_Rp_receive 144 = .ok (.aload_n 0, 1) := by decide +kernel
theorem d_Rp_receive_145 : decode b_Rp_receive 145 = .ok (.aload_n 1, 1) := by decide +kernel
theorem d_Rp_receive_146 : decode b_Rp_receive 146 = .ok (.aload_n 2, 1) := by decide +kernel
theorem d_Rp_receive_147 : decode b_Rp_receive 147 = .ok (.invokevirtual 132, 3) := by decide +kernel
theorem d_Rp_receive_150 : decode b_Rp_receive 150 = .ok (.goto 3, 3) := by decide +kernel
theorem d_Rp_receive_153 : decode b_Rp_receive 153 = .ok (.return_, 1) := by decide +kernel
theorem d_LM_deliver_0 : decode b_LM_deliver 0 = .ok (.aload_n 0, 1) := by decide +kernel
theorem d_LM_deliver_1 : decode b_LM_deliver 1 = .ok (.getfield 19, 3) := by decide +kernel
theorem d_LM_deliver_4 : decode b_LM_deliver 4 = .ok (.iload_n 1, 1) := by decide +kernel
theorem d_LM_deliver_5 : decode b_LM_deliver 5 = .ok (.invokevirtual 67, 3) := by decide +kernel
theorem d_LM_deliver_8 : decode b_LM_deliver 8 = .ok (.astore_n 2, 1) := by decide +kernel
theorem d_LM_deliver_9 : decode b_LM_deliver 9 = .ok (.aload_n 2, 1) := by decide +kernel
theorem d_LM_deliver_10 : decode b_LM_deliver 10 = .ok (.ifnonnull 5, 3) := by decide +kernel
theorem d_LM_deliver_13 : decode b_LM_deliver 13 = .ok (.iconst (-1), 1) := by decide +kernel
theorem d_LM_deliver_14 : decode b_LM_deliver 14 = .ok (.ireturn, 1) := by decide +kernel
theorem d_LM_deliver_15 : decode b_LM_deliver 15 = .ok (.aload_n 0, 1) := by decide +kernel
theorem d_LM_deliver_16 : decode b_LM_deliver 16 = .ok (.getfield 25, 3) := by decide +kernel
theorem d_LM_deliver_19 : decode b_LM_deliver 19 = .ok (.aload_n 2, 1) := by decide +kernel
theorem d_LM_deliver_20 : decode b_LM_deliver 20 = .ok (.getfield 71, 3) := by decide +kernel
theorem d_LM_deliver_23 : decode b_LM_deliver 23 = .ok (.aaload, 1) := by decide +kernel
theorem d_LM_deliver_24 : decode b_LM_deliver 24 = .ok (.aload_n 2, 1) := by decide +kernel
theorem d_LM_deliver_25 : decode b_LM_deliver 25 = .ok (.invokevirtual 76, 3) := by decide +kernel
theorem d_LM_deliver_28 : decode b_LM_deliver 28 = .ok (.aload_n 2, 1) := by decide +kernel
theorem d_LM_deliver_29 : decode b_LM_deliver 29 = .ok (.getfield 80, 3) := by decide +kernel
theorem d_LM_deliver_32 : decode b_LM_deliver 32 = .ok (.ireturn, 1) := by decide +kernel
theorem d_LM_lose_0 : decode b_LM_lose 0 = .ok (.aload_n 0, 1) := by decide +kernel
theorem d_LM_lose_1 : decode b_LM_lose 1 = .ok (.getfield 19, 3) := by decide +kernel
theorem d_LM_lose_4 : decode b_LM_lose 4 = .ok (.iload_n 1, 1) := by decide +kernel
theorem d_LM_lose_5 : decode b_LM_lose 5 = .ok (.invokevirtual 67, 3) := by decide +kernel
theorem d_LM_lose_8 : decode b_LM_lose 8 = .ok (.ifnull 7, 3) := by decide +kernel
theorem d_LM_lose_11 : decode b_LM_lose 11 = .ok (.iconst 1, 1) := by decide +kernel
theorem d_LM_lose_12 : decode b_LM_lose 12 = .ok (.goto 4, 3) := by decide +kernel
theorem d_LM_lose_15 : decode b_LM_lose 15 = .ok (.iconst 0, 1) := by decide +kernel
theorem d_LM_lose_16 : decode b_LM_lose 16 = .ok (.ireturn, 1) := by decide +kernel
theorem d_LM_crash_0 : decode b_LM_crash 0 = .ok (.aload_n 0, 1) := by decide +kernel
theorem d_LM_crash_1 : decode b_LM_crash 1 = .ok (.iload_n 1, 1) := by decide +kernel
theorem d_LM_crash_2 : decode b_LM_crash 2 = .ok (.invokevirtual 32, 3) := by decide +kernel
theorem d_LM_crash_5 : decode b_LM_crash 5 = .ok (.astore_n 2, 1) := by decide +kernel
theorem d_LM_crash_6 : decode b_LM_crash 6 = .ok (.aload_n 2, 1) := by decide +kernel
theorem d_LM_crash_7 : decode b_LM_crash 7 = .ok (.ifnull 14, 3) := by decide +kernel
theorem d_LM_crash_10 : decode b_LM_crash 10 = .ok (.aload_n 0, 1) := by decide +kernel
theorem d_LM_crash_11 : decode b_LM_crash 11 = .ok (.getfield 83, 3) := by decide +kernel
theorem d_LM_crash_14 : decode b_LM_crash 14 = .ok (.aload_n 0, 1) := by decide +kernel
theorem d_LM_crash_15 : decode b_LM_crash 15 = .ok (.getfield 13, 3) := by decide +kernel
theorem d_LM_crash_18 : decode b_LM_crash 18 = .ok (.if_icmp .lt 5, 3) := by decide +kernel
theorem d_LM_crash_21 : decode b_LM_crash 21 = .ok (.iconst 0, 1) := by decide +kernel
theorem d_LM_crash_22 : decode b_LM_crash 22 = .ok (.ireturn, 1) := by decide +kernel
theorem d_LM_crash_23 : decode b_LM_crash 23 = .ok (.aload_n 2, 1) := by decide +kernel
theorem d_LM_crash_24 : decode b_LM_crash 24 = .ok (.iconst 1, 1) := by decide +kernel
theorem d_LM_crash_25 : decode b_LM_crash 25 = .ok (.putfield 86, 3) := by decide +kernel
theorem d_LM_crash_28 : decode b_LM_crash 28 = .ok (.aload_n 0, 1) := by decide +kernel
theorem d_LM_crash_29 : decode b_LM_crash 29 = .ok (.dup, 1) := by decide +kernel
theorem d_LM_crash_30 : decode b_LM_crash 30 = .ok (.getfield 83, 3) := by decide +kernel
theorem d_LM_crash_33 : decode b_LM_crash 33 = .ok (.iconst 1, 1) := by decide +kernel
theorem d_LM_crash_34 : decode b_LM_crash 34 = .ok (.iadd, 1) := by decide +kernel
theorem d_LM_crash_35 : decode b_LM_crash 35 = .ok (.putfield 83, 3) := by decide +kernel
theorem d_LM_crash_38 : decode b_LM_crash 38 = .ok (.iconst 1, 1) := by decide +kernel
theorem d_LM_crash_39 : decode b_LM_crash 39 = .ok (.ireturn, 1) := by decide +kernel
theorem d_Sto_contains_0 : decode b_Sto_contains 0 = .ok (.iload_n 0, 1) := by decide +kernel
theorem d_Sto_contains_1 : decode b_Sto_contains 1 = .ok (.iload_n 1, 1) := by decide +kernel
theorem d_Sto_contains_2 : decode b_Sto_contains 2 = .ok (.ishr, 1) := by decide +kernel
theorem d_Sto_contains_3 : decode b_Sto_contains 3 = .ok (.iconst 1, 1) := by decide +kernel
theorem d_Sto_contains_4 : decode b_Sto_contains 4 = .ok (.iand, 1) := by decide +kernel
theorem d_Sto_contains_5 : decode b_Sto_contains 5 = .ok (.ifCond .eq 7, 3) := by decide +kernel
theorem d_Sto_contains_8 : decode b_Sto_contains 8 = .ok (.iconst 1, 1) := by decide +kernel
theorem d_Sto_contains_9 : decode b_Sto_contains 9 = .ok (.goto 4, 3) := by decide +kernel
theorem d_Sto_contains_12 : decode b_Sto_contains 12 = .ok (.iconst 0, 1) := by decide +kernel
theorem d_Sto_contains_13 : decode b_Sto_contains 13 = .ok (.ireturn, 1) := by decide +kernel
theorem d_Sto_findReach_0 : decode b_Sto_findReach 0 = .ok (.iconst 0, 1) := by decide +kernel
theorem d_Sto_findReach_1 : decode b_Sto_findReach 1 = .ok (.istore_n 2, 1) := by decide +kernel
theorem d_Sto_findReach_2 : decode b_Sto_findReach 2 = .ok (.iload_n 2, 1) := by decide +kernel
theorem d_Sto_findReach_3 : decode b_Sto_findReach 3 = .ok (.aload_n 1, 1) := by decide +kernel
theorem d_Sto_findReach_4 : decode b_Sto_findReach 4 = .ok (.arraylength, 1) := by decide +kernel
theorem d_Sto_findReach_5 : decode b_Sto_findReach 5 = .ok (.if_icmp .ge 38, 3) := by decide +kernel
theorem d_Sto_findReach_8 : decode b_Sto_findReach 8 = .ok (.aload_n 0, 1) := by decide +kernel
theorem d_Sto_findReach_9 : decode b_Sto_findReach 9 = .ok (.getfield 15, 3) := by decide +kernel
theorem d_Sto_findReach_12 : decode b_Sto_findReach 12 = .ok (.iload_n 2, 1) := by decide +kernel
theorem d_Sto_findReach_13 : decode b_Sto_findReach 13 = .ok (.aload_n 1, 1) := by decide +kernel
theorem d_Sto_findReach_14 : decode b_Sto_findReach 14 = .ok (.iload_n 2, 1) := by decide +kernel
theorem d_Sto_findReach_15 : decode b_Sto_findReach 15 = .ok (.aaload, 1) := by decide +kernel
theorem d_Sto_findReach_16 : decode b_Sto_findReach 16 = .ok (.getfield 34, 3) := by decide +kernel
theorem d_Sto_findReach_19 : decode b_Sto_findReach 19 = .ok (.iconst 3, 1) := by decide +kernel
theorem d_Sto_findReach_20 : decode b_Sto_findReach 20 = .ok (.if_icmp .ne 15, 3) := by decide +kernel
theorem d_Sto_findReach_23 : decode b_Sto_findReach 23 = .ok (.aload_n 1, 1) := by decide +kernel
theorem d_Sto_findReach_24 : decode b_Sto_findReach 24 = .ok (.iload_n 2, 1) := by decide +kernel
theorem d_Sto_findReach_25 : decode b_Sto_findReach 25 = .ok (.aaload, 1) := by decide +kernel
theorem d_Sto_findReach_26 : decode b_Sto_findReach 26 = .ok (.getfield 39, 3) := by decide +kernel
theorem d_Sto_findReach_29 : decode b_Sto_findReach 29 = .ok (.getfield 43, 3) := by decide +kernel
theorem d_Sto_findReach_32 : decode b_Sto_findReach 32 = .ok (.goto 4, 3) := by decide +kernel
theorem d_Sto_findReach_35 : decode b_Sto_findReach 35 = .ok (.iconst 0, 1) := by decide +kernel
theorem d_Sto_findReach_36 : decode b_Sto_findReach 36 = .ok (.iastore, 1) := by decide +kernel
theorem d_Sto_findReach_37 : decode b_Sto_findReach 37 = .ok (.iinc 2 1, 3) := by decide +kernel
theorem d_Sto_findReach_40 : decode b_Sto_findReach 40 = .ok (.goto (-38), 3) := by decide +kernel
theorem d_Sto_findReach_43 : decode b_Sto_findReach 43 = .ok (.iconst 0, 1) := by decide +kernel
theorem d_Sto_findReach_44 : decode b_Sto_findReach 44 = .ok (.istore_n 2, 1) := by decide +kernel
theorem d_Sto_findReach_45 : decode b_Sto_findReach 45 = .ok (.iload_n 2, 1) := by decide +kernel
theorem d_Sto_findReach_46 : decode b_Sto_findReach 46 = .ok (.aload_n 1, 1) := by decide +kernel
theorem d_Sto_findReach_47 : decode b_Sto_findReach 47 = .ok (.arraylength, 1) := by decide +kernel
theorem d_Sto_findReach_48 : decode b_Sto_findReach 48 = .ok (.if_icmp .ge 51, 3) := by decide +kernel
theorem d_Sto_findReach_51 : decode b_Sto_findReach 51 = .ok (.iconst 0, 1) := by decide +kernel
theorem d_Sto_findReach_52 : decode b_Sto_findReach 52 = .ok (.istore_n 3, 1) := by decide +kernel
theorem d_Sto_findReach_53 : decode b_Sto_findReach 53 = .ok (.iload_n 3, 1) := by decide +kernel
theorem d_Sto_findReach_54 : decode b_Sto_findReach 54 = .ok (.aload_n 1, 1) := by decide +kernel
theorem d_Sto_findReach_55 : decode b_Sto_findReach 55 = .ok (.arraylength, 1) := by decide +kernel
theorem d_Sto_findReach_56 : decode b_Sto_findReach 56 = .ok (.if_icmp .ge 37, 3) := by decide +kernel
theorem d_Sto_findReach_59 : decode b_Sto_findReach 59 = .ok (.aload_n 0, 1) := by decide +kernel
theorem d_Sto_findReach_60 : decode b_Sto_findReach 60 = .ok (.getfield 15, 3) := by decide +kernel
theorem d_Sto_findReach_63 : decode b_Sto_findReach 63 = .ok (.iload_n 3, 1) := by decide +kernel
theorem d_Sto_findReach_64 : decode b_Sto_findReach 64 = .ok (.iaload, 1) := by decide +kernel
theorem d_Sto_findReach_65 : decode b_Sto_findReach 65 = .ok (.iload_n 2, 1) := by decide +kernel
theorem d_Sto_findReach_66 : decode b_Sto_findReach 66 = .ok (.invokestatic 48, 3) := by decide +kernel
theorem d_Sto_findReach_69 : decode b_Sto_findReach 69 = .ok (.ifCond .eq 18, 3) := by decide +kernel
theorem d_Sto_findReach_72 : decode b_Sto_findReach 72 = .ok (.aload_n 0, 1) := by decide +kernel
theorem d_Sto_findReach_73 : decode b_Sto_findReach 73 = .ok (.getfield 15, 3) := by decide +kernel
theorem d_Sto_findReach_76 : decode b_Sto_findReach 76 = .ok (.iload_n 3, 1) := by decide +kernel
theorem d_Sto_findReach_77 : decode b_Sto_findReach 77 = .ok (.dup2, 1) := by decide +kernel
theorem d_Sto_findReach_78 : decode b_Sto_findReach 78 = .ok (.iaload, 1) := by decide +kernel
theorem d_Sto_findReach_79 : decode b_Sto_findReach 79 = .ok (.aload_n 0, 1) := by decide +kernel
theorem d_Sto_findReach_80 : decode b_Sto_findReach 80 = .ok (.getfield 15, 3) := by decide +kernel
theorem d_Sto_findReach_83 : decode b_Sto_findReach 83 = .ok (.iload_n 2, 1) := by decide +kernel
theorem d_Sto_findReach_84 : decode b_Sto_findReach 84 = .ok (.iaload, 1) := by decide +kernel
theorem d_Sto_findReach_85 : decode b_Sto_findReach 85 = .ok (.ior, 1) := by decide +kernel
theorem d_Sto_findReach_86 : decode b_Sto_findReach 86 = .ok (.iastore, 1) := by decide +kernel
theorem d_Sto_findReach_87 : decode b_Sto_findReach 87 = .ok (.iinc 3 1, 3) := by decide +kernel
theorem d_Sto_findReach_90 : decode b_Sto_findReach 90 = .ok (.goto (-37), 3) := by decide +kernel
theorem d_Sto_findReach_93 : decode b_Sto_findReach 93 = .ok (.iinc 2 1, 3) := by decide +kernel
theorem d_Sto_findReach_96 : decode b_Sto_findReach 96 = .ok (.goto (-51), 3) := by decide +kernel
theorem d_Sto_findReach_99 : decode b_Sto_findReach 99 = .ok (.return_, 1) := by decide +kernel
theorem d_Sto_readyComponent_0 : decode b_Sto_readyComponent 0 = .ok (.aload_n 0, 1) := by decide +kernel
theorem d_Sto_readyComponent_1 : decode b_Sto_readyComponent 1 = .ok (.getfield 15, 3) := by decide +kernel
theorem d_Sto_readyComponent_4 : decode b_Sto_readyComponent 4 = .ok (.iload_n 1, 1) := by decide +kernel
theorem d_Sto_readyComponent_5 : decode b_Sto_readyComponent 5 = .ok (.iaload, 1) := by decide +kernel
theorem d_Sto_readyComponent_6 : decode b_Sto_readyComponent 6 = .ok (.iconst 1, 1) := by decide +kernel
theorem d_Sto_readyComponent_7 : decode b_Sto_readyComponent 7 = .ok (.iload_n 1, 1) := by decide +kernel
theorem d_Sto_readyComponent_8 : decode b_Sto_readyComponent 8 = .ok (.ishl, 1) := by decide +kernel
theorem d_Sto_readyComponent_9 : decode b_Sto_readyComponent 9 = .ok (.ior, 1) := by decide +kernel
theorem d_Sto_readyComponent_10 : decode b_Sto_readyComponent 10 = .ok (.aload_n 0, 1) := by decide +kernel
theorem d_Sto_readyComponent_11 : decode b_Sto_readyComponent 11 = .ok (.getfield 56, 3) := by decide +kernel
theorem d_Sto_readyComponent_14 : decode b_Sto_readyComponent 14 = .ok (.iconst (-1), 1) := by decide +kernel
theorem d_Sto_readyComponent_15 : decode b_Sto_readyComponent 15 = .ok (.ixor, 1) := by decide +kernel
theorem d_Sto_readyComponent_16 : decode b_Sto_readyComponent 16 = .ok (.iand, 1) := by decide +kernel
theorem d_Sto_readyComponent_17 : decode b_Sto_readyComponent 17 = .ok (.istore_n 2, 1) := by decide +kernel
theorem d_Sto_readyComponent_18 : decode b_Sto_readyComponent 18 = .ok (.iconst 0, 1) := by decide +kernel
theorem d_Sto_readyComponent_19 : decode b_Sto_readyComponent 19 = .ok (.istore_n 3, 1) := by decide +kernel
theorem d_Sto_readyComponent_20 : decode b_Sto_readyComponent 20 = .ok (.iload_n 3, 1) := by decide +kernel
theorem d_Sto_readyComponent_21 : decode b_Sto_readyComponent 21 = .ok (.aload_n 0, 1) := by decide +kernel
theorem d_Sto_readyComponent_22 : decode b_Sto_readyComponent 22 = .ok (.getfield 15, 3) := by decide +kernel
theorem d_Sto_readyComponent_25 : decode b_Sto_readyComponent 25 = .ok (.arraylength, 1) := by decide +kernel
theorem d_Sto_readyComponent_26 : decode b_Sto_readyComponent 26 = .ok (.if_icmp .ge 49, 3) := by decide +kernel
theorem d_Sto_readyComponent_29 : decode b_Sto_readyComponent 29 = .ok (.iload_n 3, 1) := by decide +kernel
theorem d_Sto_readyComponent_30 : decode b_Sto_readyComponent 30 = .ok (.iload_n 1, 1) := by decide +kernel
theorem d_Sto_readyComponent_31 : decode b_Sto_readyComponent 31 = .ok (.if_icmp .eq 16, 3) := by decide +kernel
theorem d_Sto_readyComponent_34 : decode b_Sto_readyComponent 34 = .ok (.aload_n 0, 1) := by decide +kernel
theorem d_Sto_readyComponent_35 : decode b_Sto_readyComponent 35 = .ok (.getfield 15, 3) := by decide +kernel
theorem d_Sto_readyComponent_38 : decode b_Sto_readyComponent 38 = .ok (.iload_n 3, 1) := by decide +kernel
theorem d_Sto_readyComponent_39 : decode b_Sto_readyComponent 39 = .ok (.iaload, 1) := by decide +kernel
theorem d_Sto_readyComponent_40 : decode b_Sto_readyComponent 40 = .ok (.iload_n 1, 1) := by decide +kernel
theorem d_Sto_readyComponent_41 : decode b_Sto_readyComponent 41 = .ok (.invokestatic 48, 3) := by decide +kernel
theorem d_Sto_readyComponent_44 : decode b_Sto_readyComponent 44 = .ok (.ifCond .eq 7, 3) := by decide +kernel
theorem d_Sto_readyComponent_47 : decode b_Sto_readyComponent 47 = .ok (.iconst 1, 1) := by decide +kernel
theorem d_Sto_readyComponent_48 : decode b_Sto_readyComponent 48 = .ok (.goto 4, 3) := by decide +kernel
theorem d_Sto_readyComponent_51 : decode b_Sto_readyComponent 51 = .ok (.iconst 0, 1) := by decide +kernel
theorem d_Sto_readyComponent_52 : decode b_Sto_readyComponent 52 = .ok (.istore 4, 2) := by decide +kernel
theorem d_Sto_readyComponent_54 : decode b_Sto_readyComponent 54 = .ok (.iload_n 2, 1) := by decide +kernel
theorem d_Sto_readyComponent_55 : decode b_Sto_readyComponent 55 = .ok (.iload_n 3, 1) := by decide +kernel
theorem d_Sto_readyComponent_56 : decode b_Sto_readyComponent 56 = .ok (.invokestatic 48, 3) := by decide +kernel
theorem d_Sto_readyComponent_59 : decode b_Sto_readyComponent 59 = .ok (.ifCond .eq 10, 3) := by decide +kernel
theorem d_Sto_readyComponent_62 : decode b_Sto_readyComponent 62 = .ok (.iload 4, 2) := by decide +kernel
theorem d_Sto_readyComponent_64 : decode b_Sto_readyComponent 64 = .ok (.ifCond .ne 5, 3) := by decide +kernel
theorem d_Sto_readyComponent_67 : decode b_Sto_readyComponent 67 = .ok (.iconst 0, 1) := by decide +kernel
theorem d_Sto_readyComponent_68 : decode b_Sto_readyComponent 68 = .ok (.ireturn, 1) := by decide +kernel
theorem d_Sto_readyComponent_69 : decode b_Sto_readyComponent 69 = .ok (.iinc 3 1, 3) := by decide +kernel
theorem d_Sto_readyComponent_72 : decode b_Sto_readyComponent 72 = .ok (.goto (-52), 3) := by decide +kernel
theorem d_Sto_readyComponent_75 : decode b_Sto_readyComponent 75 = .ok (.iload_n 2, 1) := by decide +kernel
theorem d_Sto_readyComponent_76 : decode b_Sto_readyComponent 76 = .ok (.ireturn, 1) := by decide +kernel
theorem d_Sto_leastReadyComponent_0 : decode b_Sto_leastReadyComponent 0 = .ok (.iconst 0, 1) := by decide +kernel
theorem d_Sto_leastReadyComponent_1 : decode b_Sto_leastReadyComponent 1 = .ok (.istore_n 2, 1) := by decide +kernel
theorem d_Sto_leastReadyComponent_2 : decode b_Sto_leastReadyComponent 2 = .ok (.iload_n 2, 1) := by decide +kernel
theorem d_Sto_leastReadyComponent_3 : decode b_Sto_leastReadyComponent 3 = .ok (.aload_n 1, 1) := by decide +kernel
theorem d_Sto_leastReadyComponent_4 : decode b_Sto_leastReadyComponent 4 = .ok (.arraylength, 1) := by decide +kernel
theorem d_Sto_leastReadyComponent_5 : decode b_Sto_leastReadyComponent 5 = .ok (.if_icmp .ge 35, 3) := by decide +kernel
theorem d_Sto_leastReadyComponent_8 : decode b_Sto_leastReadyComponent 8 = .ok (.aload_n 1, 1) := by decide +kernel
theorem d_Sto_leastReadyComponent_9 : decode b_Sto_leastReadyComponent 9 = .ok (.iload_n 2, 1) := by decide +kernel
theorem d_Sto_leastReadyComponent_10 : decode b_Sto_leastReadyComponent 10 = .ok (.aaload, 1) := by decide +kernel
theorem d_Sto_leastReadyComponent_11 : decode b_Sto_leastReadyComponent 11 = .ok (.getfield 34, 3) := by decide +kernel
theorem d_Sto_leastReadyComponent_14 : decode b_Sto_leastReadyComponent 14 = .ok (.iconst 3, 1) := by decide +kernel
theorem d_Sto_leastReadyComponent_15 : decode b_Sto_leastReadyComponent 15 = .ok (.if_icmp .ne 11, 3) := by decide +kernel
theorem d_Sto_leastReadyComponent_18 : decode b_Sto_leastReadyComponent 18 = .ok (.aload_n 0, 1) := by decide +kernel
theorem d_Sto_leastReadyComponent_19 : decode b_Sto_leastReadyComponent 19 = .ok (.iload_n 2, 1) := by decide +kernel
theorem d_Sto_leastReadyComponent_20 : decode b_Sto_leastReadyComponent 20 = .ok (.invokevirtual 52, 3) := by decide +kernel
theorem d_Sto_leastReadyComponent_23 : decode b_Sto_leastReadyComponent 23 = .ok (.goto 4, 3) := by decide +kernel
theorem d_Sto_leastReadyComponent_26 : decode b_Sto_leastReadyComponent 26 = .ok (.iconst 0, 1) := by decide +kernel
theorem d_Sto_leastReadyComponent_27 : decode b_Sto_leastReadyComponent 27 = .ok (.istore_n 3, 1) := by decide +kernel
theorem d_Sto_leastReadyComponent_28 : decode b_Sto_leastReadyComponent 28 = .ok (.iload_n 3, 1) := by decide +kernel
theorem d_Sto_leastReadyComponent_29 : decode b_Sto_leastReadyComponent 29 = .ok (.ifCond .eq 5, 3) := by decide +kernel
theorem d_Sto_leastReadyComponent_32 : decode b_Sto_leastReadyComponent 32 = .ok (.iload_n 3, 1) := by decide +kernel
theorem d_Sto_leastReadyComponent_33 : decode b_Sto_leastReadyComponent 33 = .ok (.ireturn, 1) := by decide +kernel
theorem d_Sto_leastReadyComponent_34 : decode b_Sto_leastReadyComponent 34 = .ok (.iinc 2 1, 3) := by decide +kernel
theorem d_Sto_leastReadyComponent_37 : decode b_Sto_leastReadyComponent 37 = .ok (.goto (-35), 3) := by decide +kernel
theorem d_Sto_leastReadyComponent_40 : decode b_Sto_leastReadyComponent 40 = .ok (.iconst 0, 1) := by decide +kernel
theorem d_Sto_leastReadyComponent_41 : decode b_Sto_leastReadyComponent 41 = .ok (.ireturn, 1) := by decide +kernel
