theorem d_Net_init_0 : decode b_Net_init 0 = .ok (.aload_n 0, 1) := by decide +kernel
theorem d_Net_init_1 : decode b_Net_init 1 = .ok (.invokespecial 3, 3) := by decide +kernel
theorem d_Net_init_4 : decode b_Net_init 4 = .ok (.aload_n 0, 1) := by decide +kernel
theorem d_Net_init_5 : decode b_Net_init 5 = .ok (.bipush 40, 2) := by decide +kernel
theorem d_Net_init_7 : decode b_Net_init 7 = .ok (.anewarray 9, 3) := by decide +kernel
theorem d_Net_init_10 : decode b_Net_init 10 = .ok (.putfield 11, 3) := by decide +kernel
theorem d_Net_init_13 : decode b_Net_init 13 = .ok (.return_, 1) := by decide +kernel
theorem d_En_init_0 : decode b_En_init 0 = .ok (.aload_n 0, 1) := by decide +kernel
theorem d_En_init_1 : decode b_En_init 1 = .ok (.invokespecial 3, 3) := by decide +kernel
theorem d_En_init_4 : decode b_En_init 4 = .ok (.return_, 1) := by decide +kernel
theorem d_Sto_init_0 : decode b_Sto_init 0 = .ok (.aload_n 0, 1) := by decide +kernel
theorem d_Sto_init_1 : decode b_Sto_init 1 = .ok (.invokespecial 3, 3) := by decide +kernel
theorem d_Sto_init_4 : decode b_Sto_init 4 = .ok (.aload_n 0, 1) := by decide +kernel
theorem d_Sto_init_5 : decode b_Sto_init 5 = .ok (.iconst 4, 1) := by decide +kernel
theorem d_Sto_init_6 : decode b_Sto_init 6 = .ok (.newarray .int, 2) := by decide +kernel
theorem d_Sto_init_8 : decode b_Sto_init 8 = .ok (.putfield 9, 3) := by decide +kernel
theorem d_Sto_init_11 : decode b_Sto_init 11 = .ok (.aload_n 0, 1) := by decide +kernel
theorem d_Sto_init_12 : decode b_Sto_init 12 = .ok (.iload_n 1, 1) := by decide +kernel
theorem d_Sto_init_13 : decode b_Sto_init 13 = .ok (.newarray .int, 2) := by decide +kernel
theorem d_Sto_init_15 : decode b_Sto_init 15 = .ok (.putfield 15, 3) := by decide +kernel
theorem d_Sto_init_18 : decode b_Sto_init 18 = .ok (.return_, 1) := by decide +kernel
theorem d_Rp_init_0 : decode b_Rp_init 0 = .ok (.aload_n 0, 1) := by decide +kernel
theorem d_Rp_init_1 : decode b_Rp_init 1 = .ok (.invokespecial 3, 3) := by decide +kernel
theorem d_Rp_init_4 : decode b_Rp_init 4 = .ok (.aload_n 0, 1) := by decide +kernel
theorem d_Rp_init_5 : decode b_Rp_init 5 = .ok (.iload_n 1, 1) := by decide +kernel
theorem d_Rp_init_6 : decode b_Rp_init 6 = .ok (.putfield 9, 3) := by decide +kernel
theorem d_Rp_init_9 : decode b_Rp_init 9 = .ok (.aload_n 0, 1) := by decide +kernel
theorem d_Rp_init_10 : decode b_Rp_init 10 = .ok (.iload_n 2, 1) := by decide +kernel
theorem d_Rp_init_11 : decode b_Rp_init 11 = .ok (.putfield 15, 3) := by decide +kernel
theorem d_Rp_init_14 : decode b_Rp_init 14 = .ok (.aload_n 0, 1) := by decide +kernel
theorem d_Rp_init_15 : decode b_Rp_init 15 = .ok (.iload_n 2, 1) := by decide +kernel
theorem d_Rp_init_16 : decode b_Rp_init 16 = .ok (.iconst 2, 1) := by decide +kernel
theorem d_Rp_init_17 : decode b_Rp_init 17 = .ok (.idiv, 1) := by decide +kernel
theorem d_Rp_init_18 : decode b_Rp_init 18 = .ok (.putfield 18, 3) := by decide +kernel
theorem d_Rp_init_21 : decode b_Rp_init 21 = .ok (.aload_n 0, 1) := by decide +kernel
theorem d_Rp_init_22 : decode b_Rp_init 22 = .ok (.aload_n 3, 1) := by decide +kernel
theorem d_Rp_init_23 : decode b_Rp_init 23 = .ok (.putfield 21, 3) := by decide +kernel
theorem d_Rp_init_26 : decode b_Rp_init 26 = .ok (.aload_n 0, 1) := by decide +kernel
theorem d_Rp_init_27 : decode b_Rp_init 27 = .ok (.bipush 6, 2) := by decide +kernel
theorem d_Rp_init_29 : decode b_Rp_init 29 = .ok (.iload_n 2, 1) := by decide +kernel
theorem d_Rp_init_30 : decode b_Rp_init 30 = .ok (.imul, 1) := by decide +kernel
theorem d_Rp_init_31 : decode b_Rp_init 31 = .ok (.anewarray 25, 3) := by decide +kernel
theorem d_Rp_init_34 : decode b_Rp_init 34 = .ok (.putfield 27, 3) := by decide +kernel
theorem d_Rp_init_37 : decode b_Rp_init 37 = .ok (.iconst 0, 1) := by decide +kernel
theorem d_Rp_init_38 : decode b_Rp_init 38 = .ok (.istore 4, 2) := by decide +kernel
theorem d_Rp_init_40 : decode b_Rp_init 40 = .ok (.iload 4, 2) := by decide +kernel
theorem d_Rp_init_42 : decode b_Rp_init 42 = .ok (.aload_n 0, 1) := by decide +kernel
theorem d_Rp_init_43 : decode b_Rp_init 43 = .ok (.getfield 27, 3) := by decide +kernel
theorem d_Rp_init_46 : decode b_Rp_init 46 = .ok (.arraylength, 1) := by decide +kernel
theorem d_Rp_init_47 : decode b_Rp_init 47 = .ok (.if_icmp .ge 23, 3) := by decide +kernel
theorem d_Rp_init_50 : decode b_Rp_init 50 = .ok (.aload_n 0, 1) := by decide +kernel
theorem d_Rp_init_51 : decode b_Rp_init 51 = .ok (.getfield 27, 3) := by decide +kernel
theorem d_Rp_init_54 : decode b_Rp_init 54 = .ok (.iload 4, 2) := by decide +kernel
theorem d_Rp_init_56 : decode b_Rp_init 56 = .ok (.new 25, 3) := by decide +kernel
theorem d_Rp_init_59 : decode b_Rp_init 59 = .ok (.dup, 1) := by decide +kernel
theorem d_Rp_init_60 : decode b_Rp_init 60 = .ok (.invokespecial 31, 3) := by decide +kernel
theorem d_Rp_init_63 : decode b_Rp_init 63 = .ok (.aastore, 1) := by decide +kernel
theorem d_Rp_init_64 : decode b_Rp_init 64 = .ok (.iinc 4 1, 3) := by decide +kernel
theorem d_Rp_init_67 : decode b_Rp_init 67 = .ok (.goto (-27), 3) := by decide +kernel
theorem d_Rp_init_70 : decode b_Rp_init 70 = .ok (.aload_n 0, 1) := by decide +kernel
theorem d_Rp_init_71 : decode b_Rp_init 71 = .ok (.aload_n 0, 1) := by decide +kernel
theorem d_Rp_init_72 : decode b_Rp_init 72 = .ok (.getfield 27, 3) := by decide +kernel
theorem d_Rp_init_75 : decode b_Rp_init 75 = .ok (.arraylength, 1) := by decide +kernel
theorem d_Rp_init_76 : decode b_Rp_init 76 = .ok (.anewarray 32, 3) := by decide +kernel
theorem d_Rp_init_79 : decode b_Rp_init 79 = .ok (.putfield 34, 3) := by decide +kernel
theorem d_Rp_init_82 : decode b_Rp_init 82 = .ok (.aload_n 0, 1) := by decide +kernel
theorem d_Rp_init_83 : decode b_Rp_init 83 = .ok (.new 38, 3) := by decide +kernel
theorem d_Rp_init_86 : decode b_Rp_init 86 = .ok (.dup, 1) := by decide +kernel
theorem d_Rp_init_87 : decode b_Rp_init 87 = .ok (.aload_n 0, 1) := by decide +kernel
theorem d_Rp_init_88 : decode b_Rp_init 88 = .ok (.getfield 27, 3) := by decide +kernel
theorem d_Rp_init_91 : decode b_Rp_init 91 = .ok (.arraylength, 1) := by decide +kernel
theorem d_Rp_init_92 : decode b_Rp_init 92 = .ok (.invokespecial 40, 3) := by decide +kernel
theorem d_Rp_init_95 : decode b_Rp_init 95 = .ok (.putfield 43, 3) := by decide +kernel
theorem d_Rp_init_98 : decode b_Rp_init 98 = .ok (.return_, 1) := by decide +kernel
theorem d_LM_init_0 : decode b_LM_init 0 = .ok (.aload_n 0, 1) := by decide +kernel
theorem d_LM_init_1 : decode b_LM_init 1 = .ok (.invokespecial 1, 3) := by decide +kernel
theorem d_LM_init_4 : decode b_LM_init 4 = .ok (.aload_n 0, 1) := by decide +kernel
theorem d_LM_init_5 : decode b_LM_init 5 = .ok (.iload_n 1, 1) := by decide +kernel
theorem d_LM_init_6 : decode b_LM_init 6 = .ok (.iconst 4, 1) := by decide +kernel
theorem d_LM_init_7 : decode b_LM_init 7 = .ok (.if_icmp .ge 7, 3) := by decide +kernel
theorem d_LM_init_10 : decode b_LM_init 10 = .ok (.iconst 3, 1) := by decide +kernel
theorem d_LM_init_11 : decode b_LM_init 11 = .ok (.goto 4, 3) := by decide +kernel
theorem d_LM_init_14 : decode b_LM_init 14 = .ok (.iconst 5, 1) := by decide +kernel
theorem d_LM_init_15 : decode b_LM_init 15 = .ok (.putfield 7, 3) := by decide +kernel
theorem d_LM_init_18 : decode b_LM_init 18 = .ok (.aload_n 0, 1) := by decide +kernel
theorem d_LM_init_19 : decode b_LM_init 19 = .ok (.aload_n 0, 1) := by decide +kernel
theorem d_LM_init_20 : decode b_LM_init 20 = .ok (.getfield 7, 3) := by decide +kernel
theorem d_LM_init_23 : decode b_LM_init 23 = .ok (.iconst 2, 1) := by decide +kernel
theorem d_LM_init_24 : decode b_LM_init 24 = .ok (.idiv, 1) := by decide +kernel
theorem d_LM_init_25 : decode b_LM_init 25 = .ok (.putfield 13, 3) := by decide +kernel
theorem d_LM_init_28 : decode b_LM_init 28 = .ok (.aload_n 0, 1) := by decide +kernel
theorem d_LM_init_29 : decode b_LM_init 29 = .ok (.new 16, 3) := by decide +kernel
theorem d_LM_init_32 : decode b_LM_init 32 = .ok (.dup, 1) := by decide +kernel
theorem d_LM_init_33 : decode b_LM_init 33 = .ok (.invokespecial 18, 3) := by decide +kernel
theorem d_LM_init_36 : decode b_LM_init 36 = .ok (.putfield 19, 3) := by decide +kernel
theorem d_LM_init_39 : decode b_LM_init 39 = .ok (.aload_n 0, 1) := by decide +kernel
theorem d_LM_init_40 : decode b_LM_init 40 = .ok (.aload_n 0, 1) := by decide +kernel
theorem d_LM_init_41 : decode b_LM_init 41 = .ok (.getfield 7, 3) := by decide +kernel
theorem d_LM_init_44 : decode b_LM_init 44 = .ok (.anewarray 23, 3) := by decide +kernel
theorem d_LM_init_47 : decode b_LM_init 47 = .ok (.putfield 25, 3) := by decide +kernel
theorem d_LM_init_50 : decode b_LM_init 50 = .ok (.iconst 0, 1) := by decide +kernel
theorem d_LM_init_51 : decode b_LM_init 51 = .ok (.istore_n 2, 1) := by decide +kernel
theorem d_LM_init_52 : decode b_LM_init 52 = .ok (.iload_n 2, 1) := by decide +kernel
theorem d_LM_init_53 : decode b_LM_init 53 = .ok (.aload_n 0, 1) := by decide +kernel
theorem d_LM_init_54 : decode b_LM_init 54 = .ok (.getfield 7, 3) := by decide +kernel
theorem d_LM_init_57 : decode b_LM_init 57 = .ok (.if_icmp .ge 31, 3) := by decide +kernel
theorem d_LM_init_60 : decode b_LM_init 60 = .ok (.aload_n 0, 1) := by decide +kernel
theorem d_LM_init_61 : decode b_LM_init 61 = .ok (.getfield 25, 3) := by decide +kernel
theorem d_LM_init_64 : decode b_LM_init 64 = .ok (.iload_n 2, 1) := by decide +kernel
theorem d_LM_init_65 : decode b_LM_init 65 = .ok (.new 23, 3) := by decide +kernel
theorem d_LM_init_68 : decode b_LM_init 68 = .ok (.dup, 1) := by decide +kernel
theorem d_LM_init_69 : decode b_LM_init 69 = .ok (.iload_n 2, 1) := by decide +kernel
theorem d_LM_init_70 : decode b_LM_init 70 = .ok (.aload_n 0, 1) := by decide +kernel
theorem d_LM_init_71 : decode b_LM_init 71 = .ok (.getfield 7, 3) := by decide +kernel
theorem d_LM_init_74 : decode b_LM_init 74 = .ok (.aload_n 0, 1) := by decide +kernel
theorem d_LM_init_75 : decode b_LM_init 75 = .ok (.getfield 19, 3) := by decide +kernel
theorem d_LM_init_78 : decode b_LM_init 78 = .ok (.invokespecial 29, 3) := by decide +kernel
theorem d_LM_init_81 : decode b_LM_init 81 = .ok (.aastore, 1) := by decide +kernel
theorem d_LM_init_82 : decode b_LM_init 82 = .ok (.iinc 2 1, 3) := by decide +kernel
theorem d_LM_init_85 : decode b_LM_init 85 = .ok (.goto (-33), 3) := by decide +kernel
theorem d_LM_init_88 : decode b_LM_init 88 = .ok (.return_, 1) := by decide +kernel
theorem d_LM_isReplica_0 : decode b_LM_isReplica 0 = .ok (.iload_n 1, 1) := by decide +kernel
theorem d_LM_isReplica_1 : decode b_LM_isReplica 1 = .ok (.ifCond .lt 15, 3) := by decide +kernel
theorem d_LM_isReplica_4 : decode b_LM_isReplica 4 = .ok (.iload_n 1, 1) := by decide +kernel
theorem d_LM_isReplica_5 : decode b_LM_isReplica 5 = .ok (.aload_n 0, 1) := by decide +kernel
theorem d_LM_isReplica_6 : decode b_LM_isReplica 6 = .ok (.getfield 7, 3) := by decide +kernel
theorem d_LM_isReplica_9 : decode b_LM_isReplica 9 = .ok (.if_icmp .ge 7, 3) := by decide +kernel
theorem d_LM_isReplica_12 : decode b_LM_isReplica 12 = .ok (.iconst 1, 1) := by decide +kernel
theorem d_LM_isReplica_13 : decode b_LM_isReplica 13 = .ok (.goto 4, 3) := by decide +kernel
theorem d_LM_isReplica_16 : decode b_LM_isReplica 16 = .ok (.iconst 0, 1) := by decide +kernel
theorem d_LM_isReplica_17 : decode b_LM_isReplica 17 = .ok (.ireturn, 1) := by decide +kernel
theorem d_LM_workingReplica_0 : decode b_LM_workingReplica 0 = .ok (.aload_n 0, 1) := by decide +kernel
theorem d_LM_workingReplica_1 : decode b_LM_workingReplica 1 = .ok (.iload_n 1, 1) := by decide +kernel
theorem d_LM_workingReplica_2 : decode b_LM_workingReplica 2 = .ok (.invokevirtual 150, 3) := by decide +kernel
theorem d_LM_workingReplica_5 : decode b_LM_workingReplica 5 = .ok (.ifCond .eq 24, 3) := by decide +kernel
theorem d_LM_workingReplica_8 : decode b_LM_workingReplica 8 = .ok (.aload_n 0, 1) := by decide +kernel
theorem d_LM_workingReplica_9 : decode b_LM_workingReplica 9 = .ok (.getfield 25, 3) := by decide +kernel
theorem d_LM_workingReplica_12 : decode b_LM_workingReplica 12 = .ok (.iload_n 1, 1) := by decide +kernel
theorem d_LM_workingReplica_13 : decode b_LM_workingReplica 13 = .ok (.aaload, 1) := by decide +kernel
theorem d_LM_workingReplica_14 : decode b_LM_workingReplica 14 = .ok (.getfield 86, 3) := by decide +kernel
theorem d_LM_workingReplica_17 : decode b_LM_workingReplica 17 = .ok (.ifCond .ne 12, 3) := by decide +kernel
theorem d_LM_workingReplica_20 : decode b_LM_workingReplica 20 = .ok (.aload_n 0, 1) := by decide +kernel
theorem d_LM_workingReplica_21 : decode b_LM_workingReplica 21 = .ok (.getfield 25, 3) := by decide +kernel
theorem d_LM_workingReplica_24 : decode b_LM_workingReplica 24 = .ok (.iload_n 1, 1) := by decide +kernel
theorem d_LM_workingReplica_25 : decode b_LM_workingReplica 25 = .ok (.aaload, 1) := by decide +kernel
theorem d_LM_workingReplica_26 : decode b_LM_workingReplica 26 = .ok (.goto 4, 3) := by decide +kernel
theorem d_LM_workingReplica_29 : decode b_LM_workingReplica 29 = .ok (.aconst_null, 1) := by decide +kernel
theorem d_LM_workingReplica_30 : decode b_LM_workingReplica 30 = .ok (.areturn, 1) := by decide +kernel
theorem d_LM_isKey_0 : decode b_LM_isKey 0 = .ok (.iload_n 1, 1) := by decide +kernel
theorem d_LM_isKey_1 : decode b_LM_isKey 1 = .ok (.ifCond .lt 12, 3) := by decide +kernel
theorem d_LM_isKey_4 : decode b_LM_isKey 4 = .ok (.iload_n 1, 1) := by decide +kernel
theorem d_LM_isKey_5 : decode b_LM_isKey 5 = .ok (.iconst 4, 1) := by decide +kernel
theorem d_LM_isKey_6 : decode b_LM_isKey 6 = .ok (.if_icmp .ge 7, 3) := by decide +kernel
theorem d_LM_isKey_9 : decode b_LM_isKey 9 = .ok (.iconst 1, 1) := by decide +kernel
theorem d_LM_isKey_10 : decode b_LM_isKey 10 = .ok (.goto 4, 3) := by decide +kernel
theorem d_LM_isKey_13 : decode b_LM_isKey 13 = .ok (.iconst 0, 1) := by decide +kernel
theorem d_LM_isKey_14 : decode b_LM_isKey 14 = .ok (.ireturn, 1) := by decide +kernel
theorem d_Rp_freeInstance_0 : decode b_Rp_freeInstance 0 = .ok (.bipush 6, 2) := by decide +kernel
theorem d_Rp_freeInstance_2 : decode b_Rp_freeInstance 2 = .ok (.aload_n 0, 1) := by decide +kernel
theorem d_Rp_freeInstance_3 : decode b_Rp_freeInstance 3 = .ok (.getfield 9, 3) := by decide +kernel
theorem d_Rp_freeInstance_6 : decode b_Rp_freeInstance 6 = .ok (.imul, 1) := by decide +kernel
theorem d_Rp_freeInstance_7 : decode b_Rp_freeInstance 7 = .ok (.istore_n 1, 1) := by decide +kernel
theorem d_Rp_freeInstance_8 : decode b_Rp_freeInstance 8 = .ok (.iload_n 1, 1) := by decide +kernel
theorem d_Rp_freeInstance_9 : decode b_Rp_freeInstance 9 = .ok (.istore_n 2, 1) := by decide +kernel
theorem d_Rp_freeInstance_10 : decode b_Rp_freeInstance 10 = .ok (.iload_n 2, 1) := by decide +kernel
theorem d_Rp_freeInstance_11 : decode b_Rp_freeInstance 11 = .ok (.iload_n 1, 1) := by decide +kernel
theorem d_Rp_freeInstance_12 : decode b_Rp_freeInstance 12 = .ok (.bipush 6, 2) := by decide +kernel
theorem d_Rp_freeInstance_14 : decode b_Rp_freeInstance 14 = .ok (.iadd, 1) := by decide +kernel
theorem d_Rp_freeInstance_15 : decode b_Rp_freeInstance 15 = .ok (.if_icmp .ge 35, 3) := by decide +kernel
theorem d_Rp_freeInstance_18 : decode b_Rp_freeInstance 18 = .ok (.aload_n 0, 1) := by decide +kernel
theorem d_Rp_freeInstance_19 : decode b_Rp_freeInstance 19 = .ok (.getfield 27, 3) := by decide +kernel
theorem d_Rp_freeInstance_22 : decode b_Rp_freeInstance 22 = .ok (.iload_n 2, 1) := by decide +kernel
theorem d_Rp_freeInstance_23 : decode b_Rp_freeInstance 23 = .ok (.aaload, 1) := by decide +kernel
theorem d_Rp_freeInstance_24 : decode b_Rp_freeInstance 24 = .ok (.getfield 47, 3) := by decide +kernel
theorem d_Rp_freeInstance_27 : decode b_Rp_freeInstance 27 = .ok (.ifCond .ne 17, 3) := by decide +kernel
theorem d_Rp_freeInstance_30 : decode b_Rp_freeInstance 30 = .ok (.aload_n 0, 1) := by decide +kernel
theorem d_Rp_freeInstance_31 : decode b_Rp_freeInstance 31 = .ok (.getfield 27, 3) := by decide +kernel
theorem d_Rp_freeInstance_34 : decode b_Rp_freeInstance 34 = .ok (.iload_n 2, 1) := by decide +kernel
theorem d_Rp_freeInstance_35 : decode b_Rp_freeInstance 35 = .ok (.aaload, 1) := by decide +kernel
theorem d_Rp_freeInstance_36 : decode b_Rp_freeInstance 36 = .ok (.getfield 50, 3) := by decide +kernel
theorem d_Rp_freeInstance_39 : decode b_Rp_freeInstance 39 = .ok (.ifCond .ne 5, 3) := by decide +kernel
theorem d_Rp_freeInstance_42 : decode b_Rp_freeInstance 42 = .ok (.iload_n 2, 1) := by decide +kernel
theorem d_Rp_freeInstance_43 : decode b_Rp_freeInstance 43 = .ok (.ireturn, 1) := by decide +kernel
theorem d_Rp_freeInstance_44 : decode b_Rp_freeInstance 44 = .ok (.iinc 2 1, 3) := by decide +kernel
theorem d_Rp_freeInstance_47 : decode b_Rp_freeInstance 47 = .ok (.goto (-37), 3) := by decide +kernel
theorem d_Rp_freeInstance_50 : decode b_Rp_freeInstance 50 = .ok (.iconst (-1), 1) := by decide +kernel
theorem d_Rp_freeInstance_51 : decode b_Rp_freeInstance 51 = .ok (.ireturn, 1) := by decide +kernel
theorem d_Cmd_init_0 : decode b_Cmd_init 0 = .ok (.aload_n 0, 1) := by decide +kernel
theorem d_Cmd_init_1 : decode b_Cmd_init 1 = .ok (.invokespecial 3, 3) := by decide +kernel
theorem d_Cmd_init_4 : decode b_Cmd_init 4 = .ok (.aload_n 0, 1) := by decide +kernel
theorem d_Cmd_init_5 : decode b_Cmd_init 5 = .ok (.iload_n 1, 1) := by decide +kernel
theorem d_Cmd_init_6 : decode b_Cmd_init 6 = .ok (.putfield 9, 3) := by decide +kernel
theorem d_Cmd_init_9 : decode b_Cmd_init 9 = .ok (.aload_n 0, 1) := by decide +kernel
theorem d_Cmd_init_10 : decode b_Cmd_init 10 = .ok (.iload_n 2, 1) := by decide +kernel
theorem d_Cmd_init_11 : decode b_Cmd_init 11 = .ok (.putfield 15, 3) := by decide +kernel
theorem d_Cmd_init_14 : decode b_Cmd_init 14 = .ok (.aload_n 0, 1) := by decide +kernel
theorem d_Cmd_init_15 : decode b_Cmd_init 15 = .ok (.iload_n 3, 1) := by decide +kernel
theorem d_Cmd_init_16 : decode b_Cmd_init 16 = .ok (.putfield 18, 3) := by decide +kernel
theorem d_Cmd_init_19 : decode b_Cmd_init 19 = .ok (.return_, 1) := by decide +kernel
theorem d_Or_init_0 : decode b_Or_init 0 = .ok (.aload_n 0, 1) := by decide +kernel
theorem d_Or_init_1 : decode b_Or_init 1 = .ok (.invokespecial 1, 3) := by decide +kernel
theorem d_Or_init_4 : decode b_Or_init 4 = .ok (.aload_n 0, 1) := by decide +kernel
theorem d_Or_init_5 : decode b_Or_init 5 = .ok (.aload_n 1, 1) := by decide +kernel
theorem d_Or_init_6 : decode b_Or_init 6 = .ok (.putfield 7, 3) := by decide +kernel
theorem d_Or_init_9 : decode b_Or_init 9 = .ok (.aload_n 0, 1) := by decide +kernel
theorem d_Or_init_10 : decode b_Or_init 10 = .ok (.iload_n 2, 1) := by decide +kernel
theorem d_Or_init_11 : decode b_Or_init 11 = .ok (.putfield 13, 3) := by decide +kernel
theorem d_Or_init_14 : decode b_Or_init 14 = .ok (.aload_n 0, 1) := by decide +kernel
theorem d_Or_init_15 : decode b_Or_init 15 = .ok (.iload_n 3, 1) := by decide +kernel
theorem d_Or_init_16 : decode b_Or_init 16 = .ok (.putfield 17, 3) := by decide +kernel
theorem d_Or_init_19 : decode b_Or_init 19 = .ok (.return_, 1) := by decide +kernel
theorem d_Cmd_interferesWith_0 : decode b_Cmd_interferesWith 0 = .ok (.aload_n 0, 1) := by decide +kernel
theorem d_Cmd_interferesWith_1 : decode b_Cmd_interferesWith 1 = .ok (.getfield 9, 3) := by decide +kernel
theorem d_Cmd_interferesWith_4 : decode b_Cmd_interferesWith 4 = .ok (.iconst 2, 1) := by decide +kernel
theorem d_Cmd_interferesWith_5 : decode b_Cmd_interferesWith 5 = .ok (.if_icmp .eq 11, 3) := by decide +kernel
theorem d_Cmd_interferesWith_8 : decode b_Cmd_interferesWith 8 = .ok (.aload_n 1, 1) := by decide +kernel
theorem d_Cmd_interferesWith_9 : decode b_Cmd_interferesWith 9 = .ok (.getfield 9, 3) := by decide +kernel
theorem d_Cmd_interferesWith_12 : decode b_Cmd_interferesWith 12 = .ok (.iconst 2, 1) := by decide +kernel
theorem d_Cmd_interferesWith_13 : decode b_Cmd_interferesWith 13 = .ok (.if_icmp .ne 5, 3) := by decide +kernel
theorem d_Cmd_interferesWith_16 : decode b_Cmd_interferesWith 16 = .ok (.iconst 1, 1) := by decide +kernel
theorem d_Cmd_interferesWith_17 : decode b_Cmd_interferesWith 17 = .ok (.ireturn, 1) := by decide +kernel
theorem d_Cmd_interferesWith_18 : decode b_Cmd_interferesWith 18 = .ok (.aload_n 0, 1) := by decide +kernel
theorem d_Cmd_interferesWith_19 : decode b_Cmd_interferesWith 19 = .ok (.getfield 15, 3) := by decide +kernel
theorem d_Cmd_interferesWith_22 : decode b_Cmd_interferesWith 22 = .ok (.aload_n 1, 1) := by decide +kernel
theorem d_Cmd_interferesWith_23 : decode b_Cmd_interferesWith 23 = .ok (.getfield 15, 3) := by decide +kernel
theorem d_Cmd_interferesWith_26 : decode b_Cmd_interferesWith 26 = .ok (.if_icmp .ne 23, 3) := by decide +kernel
theorem d_Cmd_interferesWith_29 : decode b_Cmd_interferesWith 29 = .ok (.aload_n 0, 1) := by decide +kernel
theorem d_Cmd_interferesWith_30 : decode b_Cmd_interferesWith 30 = .ok (.getfield 9, 3) := by decide +kernel
theorem d_Cmd_interferesWith_33 : decode b_Cmd_interferesWith 33 = .ok (.iconst 1, 1) := by decide +kernel
theorem d_Cmd_interferesWith_34 : decode b_Cmd_interferesWith 34 = .ok (.if_icmp .eq 11, 3) := by decide +kernel
theorem d_Cmd_interferesWith_37 : decode b_Cmd_interferesWith 37 = .ok (.aload_n 1, 1) := by decide +kernel
theorem d_Cmd_interferesWith_38 : decode b_Cmd_interferesWith 38 = .ok (.getfield 9, 3) := by decide +kernel
theorem d_Cmd_interferesWith_41 : decode b_Cmd_interferesWith 41 = .ok (.iconst 1, 1) := by decide +kernel
theorem d_Cmd_interferesWith_42 : decode b_Cmd_interferesWith 42 = .ok (.if_icmp .ne 7, 3) := by decide +kernel
theorem d_Cmd_interferesWith_45 : decode b_Cmd_interferesWith 45 = .ok (.iconst 1, 1) := by decide +kernel
theorem d_Cmd_interferesWith_46 : decode b_Cmd_interferesWith 46 = .ok (.goto 4, 3) := by decide +kernel
theorem d_Cmd_interferesWith_49 : decode b_Cmd_interferesWith 49 = .ok (.iconst 0, 1) := by decide +kernel
theorem d_Cmd_interferesWith_50 : decode b_Cmd_interferesWith 50 = .ok (.ireturn, 1) := by decide +kernel
theorem d_Rp_fitted_0 : decode b_Rp_fitted 0 = .ok (.aload_n 2, 1) := by decide +kernel
theorem d_Rp_fitted_1 : decode b_Rp_fitted 1 = .ok (.getfield 225, 3) := by decide +kernel
theorem d_Rp_fitted_4 : decode b_Rp_fitted 4 = .ok (.istore_n 3, 1) := by decide +kernel
theorem d_Rp_fitted_5 : decode b_Rp_fitted 5 = .ok (.aload_n 2, 1) := by decide +kernel
theorem d_Rp_fitted_6 : decode b_Rp_fitted 6 = .ok (.getfield 228, 3) := by decide +kernel
theorem d_Rp_fitted_9 : decode b_Rp_fitted 9 = .ok (.istore 4, 2) := by decide +kernel
theorem d_Rp_fitted_11 : decode b_Rp_fitted 11 = .ok (.iconst 0, 1) := by decide +kernel
theorem d_Rp_fitted_12 : decode b_Rp_fitted 12 = .ok (.istore 5, 2) := by decide +kernel
theorem d_Rp_fitted_14 : decode b_Rp_fitted 14 = .ok (.iload 5, 2) := by decide +kernel
theorem d_Rp_fitted_16 : decode b_Rp_fitted 16 = .ok (.aload_n 0, 1) := by decide +kernel
theorem d_Rp_fitted_17 : decode b_Rp_fitted 17 = .ok (.getfield 27, 3) := by decide +kernel
theorem d_Rp_fitted_20 : decode b_Rp_fitted 20 = .ok (.arraylength, 1) := by decide +kernel
theorem d_Rp_fitted_21 : decode b_Rp_fitted 21 = .ok (.if_icmp .ge 68, 3) := by decide +kernel
theorem d_Rp_fitted_24 : decode b_Rp_fitted 24 = .ok (.aload_n 0, 1) := by decide +kernel
theorem d_Rp_fitted_25 : decode b_Rp_fitted 25 = .ok (.getfield 27, 3) := by decide +kernel
theorem d_Rp_fitted_28 : decode b_Rp_fitted 28 = .ok (.iload 5, 2) := by decide +kernel
theorem d_Rp_fitted_30 : decode b_Rp_fitted 30 = .ok (.aaload, 1) := by decide +kernel
theorem d_Rp_fitted_31 : decode b_Rp_fitted 31 = .ok (.getfield 102, 3) := by decide +kernel
theorem d_Rp_fitted_34 : decode b_Rp_fitted 34 = .ok (.astore 6, 2) := by decide +kernel
theorem d_Rp_fitted_36 : decode b_Rp_fitted 36 = .ok (.iload 5, 2) := by decide +kernel
theorem d_Rp_fitted_38 : decode b_Rp_fitted 38 = .ok (.iload_n 1, 1) := by decide +kernel
theorem d_Rp_fitted_39 : decode b_Rp_fitted 39 = .ok (.if_icmp .eq 44, 3) := by decide +kernel
theorem d_Rp_fitted_42 : decode b_Rp_fitted 42 = .ok (.aload 6, 2) := by decide +kernel
theorem d_Rp_fitted_44 : decode b_Rp_fitted 44 = .ok (.ifnull 39, 3) := by decide +kernel
theorem d_Rp_fitted_47 : decode b_Rp_fitted 47 = .ok (.aload 6, 2) := by decide +kernel
theorem d_Rp_fitted_49 : decode b_Rp_fitted 49 = .ok (.getfield 154, 3) := by decide +kernel
theorem d_Rp_fitted_52 : decode b_Rp_fitted 52 = .ok (.aload_n 2, 1) := by decide +kernel
theorem d_Rp_fitted_53 : decode b_Rp_fitted 53 = .ok (.getfield 154, 3) := by decide +kernel
theorem d_Rp_fitted_56 : decode b_Rp_fitted 56 = .ok (.invokevirtual 231, 3) := by decide +kernel
theorem d_Rp_fitted_59 : decode b_Rp_fitted 59 = .ok (.ifCond .eq 24, 3) := by decide +kernel
theorem d_Rp_fitted_62 : decode b_Rp_fitted 62 = .ok (.iload_n 3, 1) := by decide +kernel
theorem d_Rp_fitted_63 : decode b_Rp_fitted 63 = .ok (.aload 6, 2) := by decide +kernel
theorem d_Rp_fitted_65 : decode b_Rp_fitted 65 = .ok (.getfield 225, 3) := by decide +kernel
theorem d_Rp_fitted_68 : decode b_Rp_fitted 68 = .ok (.iconst 1, 1) := by decide +kernel
theorem d_Rp_fitted_69 : decode b_Rp_fitted 69 = .ok (.iadd, 1) := by decide +kernel
theorem d_Rp_fitted_70 : decode b_Rp_fitted 70 = .ok (.invokestatic 235, 3) := by decide +kernel
theorem d_Rp_fitted_73 : decode b_Rp_fitted 73 = .ok (.istore_n 3, 1) := by decide +kernel
theorem d_Rp_fitted_74 : decode b_Rp_fitted 74 = .ok (.iload 4, 2) := by decide +kernel
theorem d_Rp_fitted_76 : decode b_Rp_fitted 76 = .ok (.iconst 1, 1) := by decide +kernel
theorem d_Rp_fitted_77 : decode b_Rp_fitted 77 = .ok (.iload 5, 2) := by decide +kernel
theorem d_Rp_fitted_79 : decode b_Rp_fitted 79 = .ok (.ishl, 1) := by decide +kernel
theorem d_Rp_fitted_80 : decode b_Rp_fitted 80 = .ok (.ior, 1) := by decide +kernel
theorem d_Rp_fitted_81 : decode b_Rp_fitted 81 = .ok (.istore 4, 2) := by decide +kernel
theorem d_Rp_fitted_83 : decode b_Rp_fitted 83 = .ok (.iinc 5 1, 3) := by decide +kernel
theorem d_Rp_fitted_86 : decode b_Rp_fitted 86 = .ok (.goto (-72), 3) := by decide +kernel
theorem d_Rp_fitted_89 : decode b_Rp_fitted 89 = .ok (.new 53, 3) := by decide +kernel
theorem d_Rp_fitted_92 : decode b_Rp_fitted 92 = .ok (.dup, 1) := by decide +kernel
theorem d_Rp_fitted_93 : decode b_Rp_fitted 93 = .ok (.aload_n 2, 1) := by decide +kernel
theorem d_Rp_fitted_94 : decode b_Rp_fitted 94 = .ok (.getfield 154, 3) := by decide +kernel
theorem d_Rp_fitted_97 : decode b_Rp_fitted 97 = .ok (.iload_n 3, 1) := by decide +kernel
theorem d_Rp_fitted_98 : decode b_Rp_fitted 98 = .ok (.iload 4, 2) := by decide +kernel
theorem d_Rp_fitted_100 : decode b_Rp_fitted 100 = .ok (.invokespecial 55, 3) := by decide +kernel
theorem d_Rp_fitted_103 : decode b_Rp_fitted 103 = .ok (.areturn, 1) := by decide +kernel
theorem d_En_become_0 : decode b_En_become 0 = .ok (.aload_n 0, 1) := by decide +kernel
theorem d_En_become_1 : decode b_En_become 1 = .ok (.iload_n 1, 1) := by decide +kernel
theorem d_En_become_2 : decode b_En_become 2 = .ok (.putfield 9, 3) := by decide +kernel
theorem d_En_become_5 : decode b_En_become 5 = .ok (.aload_n 0, 1) := by decide +kernel
theorem d_En_become_6 : decode b_En_become 6 = .ok (.aload_n 2, 1) := by decide +kernel
theorem d_En_become_7 : decode b_En_become 7 = .ok (.putfield 15, 3) := by decide +kernel
theorem d_En_become_10 : decode b_En_become 10 = .ok (.return_, 1) := by decide +kernel
theorem d_At_init_0 : decode b_At_init 0 = .ok (.aload_n 0, 1) := by decide +kernel
theorem d_At_init_1 : decode b_At_init 1 = .ok (.invokespecial 3, 3) := by decide +kernel
theorem d_At_init_4 : decode b_At_init 4 = .ok (.aload_n 0, 1) := by decide +kernel
theorem d_At_init_5 : decode b_At_init 5 = .ok (.iload_n 1, 1) := by decide +kernel
theorem d_At_init_6 : decode b_At_init 6 = .ok (.putfield 9, 3) := by decide +kernel
theorem d_At_init_9 : decode b_At_init 9 = .ok (.aload_n 0, 1) := by decide +kernel
theorem d_At_init_10 : decode b_At_init 10 = .ok (.iload_n 2, 1) := by decide +kernel
theorem d_At_init_11 : decode b_At_init 11 = .ok (.putfield 15, 3) := by decide +kernel
theorem d_At_init_14 : decode b_At_init 14 = .ok (.aload_n 0, 1) := by decide +kernel
theorem d_At_init_15 : decode b_At_init 15 = .ok (.iload_n 3, 1) := by decide +kernel
theorem d_At_init_16 : decode b_At_init 16 = .ok (.putfield 18, 3) := by decide +kernel
theorem d_At_init_19 : decode b_At_init 19 = .ok (.aload_n 0, 1) := by decide +kernel
theorem d_At_init_20 : decode b_At_init 20 = .ok (.iload 4, 2) := by decide +kernel
theorem d_At_init_22 : decode b_At_init 22 = .ok (.anewarray 22, 3) := by decide +kernel
theorem d_At_init_25 : decode b_At_init 25 = .ok (.putfield 24, 3) := by decide +kernel
theorem d_At_init_28 : decode b_At_init 28 = .ok (.return_, 1) := by decide +kernel
theorem d_Ms_init_0 : decode b_Ms_init 0 = .ok (.aload_n 0, 1) := by decide +kernel
theorem d_Ms_init_1 : decode b_Ms_init 1 = .ok (.invokespecial 3, 3) := by decide +kernel
theorem d_Ms_init_4 : decode b_Ms_init 4 = .ok (.aload_n 0, 1) := by decide +kernel
theorem d_Ms_init_5 : decode b_Ms_init 5 = .ok (.iload_n 1, 1) := by decide +kernel
theorem d_Ms_init_6 : decode b_Ms_init 6 = .ok (.putfield 9, 3) := by decide +kernel
theorem d_Ms_init_9 : decode b_Ms_init 9 = .ok (.aload_n 0, 1) := by decide +kernel
theorem d_Ms_init_10 : decode b_Ms_init 10 = .ok (.iload_n 2, 1) := by decide +kernel
theorem d_Ms_init_11 : decode b_Ms_init 11 = .ok (.putfield 15, 3) := by decide +kernel
theorem d_Ms_init_14 : decode b_Ms_init 14 = .ok (.aload_n 0, 1) := by decide +kernel
theorem d_Ms_init_15 : decode b_Ms_init 15 = .ok (.iload_n 3, 1) := by decide +kernel
theorem d_Ms_init_16 : decode b_Ms_init 16 = .ok (.putfield 18, 3) := by decide +kernel
theorem d_Ms_init_19 : decode b_Ms_init 19 = .ok (.aload_n 0, 1) := by decide +kernel
theorem d_Ms_init_20 : decode b_Ms_init 20 = .ok (.iload 4, 2) := by decide +kernel
theorem d_Ms_init_22 : decode b_Ms_init 22 = .ok (.putfield 21, 3) := by decide +kernel
theorem d_Ms_init_25 : decode b_Ms_init 25 = .ok (.aload_n 0, 1) := by decide +kernel
theorem d_Ms_init_26 : decode b_Ms_init 26 = .ok (.iload 5, 2) := by decide +kernel
theorem d_Ms_init_28 : decode b_Ms_init 28 = .ok (.putfield 24, 3) := by decide +kernel
theorem d_Ms_init_31 : decode b_Ms_init 31 = .ok (.aload_n 0, 1) := by decide +kernel
theorem d_Ms_init_32 : decode b_Ms_init 32 = .ok (.aload 6, 2) := by decide +kernel
theorem d_Ms_init_34 : decode b_Ms_init 34 = .ok (.putfield 27, 3) := by decide +kernel
theorem d_Ms_init_37 : decode b_Ms_init 37 = .ok (.aload_n 0, 1) := by decide +kernel
theorem d_Ms_init_38 : decode b_Ms_init 38 = .ok (.aload 7, 2) := by decide +kernel
theorem d_Ms_init_40 : decode b_Ms_init 40 = .ok (.putfield 31, 3) := by decide +kernel
theorem d_Ms_init_43 : decode b_Ms_init 43 = .ok (.return_, 1) := by decide +kernel
theorem d_Net_send_0 : decode b_Net_send 0 = .ok (.aload_n 0, 1) := by decide +kernel
theorem d_Net_send_1 : decode b_Net_send 1 = .ok (.getfield 17, 3) := by decide +kernel
theorem d_Net_send_4 : decode b_Net_send 4 = .ok (.bipush 40, 2) := by decide +kernel
theorem d_Net_send_6 : decode b_Net_send 6 = .ok (.if_icmp .lt 14, 3) := by decide +kernel
theorem d_Net_send_9 : decode b_Net_send 9 = .ok (.aload_n 0, 1) := by decide +kernel
theorem d_Net_send_10 : decode b_Net_send 10 = .ok (.dup, 1) := by decide +kernel
theorem d_Net_send_11 : decode b_Net_send 11 = .ok (.getfield 21, 3) := by decide +kernel
theorem d_Net_send_14 : decode b_Net_send 14 = .ok (.iconst 1, 1) := by decide +kernel
theorem d_Net_send_15 : decode b_Net_send 15 = .ok (.iadd, 1) := by decide +kernel
theorem d_Net_send_16 : decode b_Net_send 16 = .ok (.putfield 21, 3) := by decide +kernel
theorem d_Net_send_19 : decode b_Net_send 19 = .ok (.return_, 1) := by decide +kernel
theorem d_Net_send_20 : decode b_Net_send 20 = .ok (.aload_n 0, 1) := by decide +kernel
theorem d_Net_send_21 : decode b_Net_send 21 = .ok (.getfield 11, 3) := by decide +kernel
theorem d_Net_send_24 : decode b_Net_send 24 = .ok (.aload_n 0, 1) := by decide +kernel
theorem d_Net_send_25 : decode b_Net_send 25 = .ok (.getfield 17, 3) := by decide +kernel
theorem d_Net_send_28 : decode b_Net_send 28 = .ok (.aload_n 1, 1) := by decide +kernel
theorem d_Net_send_29 : decode b_Net_send 29 = .ok (.aastore, 1) := by decide +kernel
theorem d_Net_send_30 : decode b_Net_send 30 = .ok (.aload_n 0, 1) := by decide +kernel
theorem d_Net_send_31 : decode b_Net_send 31 = .ok (.dup, 1) := by decide +kernel
theorem d_Net_send_32 : decode b_Net_send 32 = .ok (.getfield 17, 3) := by decide +kernel
theorem d_Net_send_35 : decode b_Net_send 35 = .ok (.iconst 1, 1) := by decide +kernel
theorem d_Net_send_36 : decode b_Net_send 36 = .ok (.iadd, 1) := by decide +kernel
theorem d_Net_send_37 : decode b_Net_send 37 = .ok (.putfield 17, 3) := by decide +kernel
theorem d_Net_send_40 : decode b_Net_send 40 = .ok (.return_, 1) := by decide +kernel
theorem d_Rp_startCommand_0 : decode b_Rp_startCommand 0 = .ok (.aload_n 0, 1) := by decide +kernel
theorem d_Rp_startCommand_1 : decode b_Rp_startCommand 1 = .ok (.iload_n 1, 1) := by decide +kernel
theorem d_Rp_startCommand_2 : decode b_Rp_startCommand 2 = .ok (.new 53, 3) := by decide +kernel
theorem d_Rp_startCommand_5 : decode b_Rp_startCommand 5 = .ok (.dup, 1) := by decide +kernel
theorem d_Rp_startCommand_6 : decode b_Rp_startCommand 6 = .ok (.aload_n 2, 1) := by decide +kernel
theorem d_Rp_startCommand_7 : decode b_Rp_startCommand 7 = .ok (.iconst 1, 1) := by decide +kernel
theorem d_Rp_startCommand_8 : decode b_Rp_startCommand 8 = .ok (.iconst 0, 1) := by decide +kernel
theorem d_Rp_startCommand_9 : decode b_Rp_startCommand 9 = .ok (.invokespecial 55, 3) := by decide +kernel
theorem d_Rp_startCommand_12 : decode b_Rp_startCommand 12 = .ok (.invokevirtual 58, 3) := by decide +kernel
theorem d_Rp_startCommand_15 : decode b_Rp_startCommand 15 = .ok (.astore_n 3, 1) := by decide +kernel
theorem d_Rp_startCommand_16 : decode b_Rp_startCommand 16 = .ok (.aload_n 0, 1) := by decide +kernel
theorem d_Rp_startCommand_17 : decode b_Rp_startCommand 17 = .ok (.getfield 27, 3) := by decide +kernel
theorem d_Rp_startCommand_20 : decode b_Rp_startCommand 20 = .ok (.iload_n 1, 1) := by decide +kernel
theorem d_Rp_startCommand_21 : decode b_Rp_startCommand 21 = .ok (.aaload, 1) := by decide +kernel
theorem d_Rp_startCommand_22 : decode b_Rp_startCommand 22 = .ok (.iconst 1, 1) := by decide +kernel
theorem d_Rp_startCommand_23 : decode b_Rp_startCommand 23 = .ok (.aload_n 3, 1) := by decide +kernel
theorem d_Rp_startCommand_24 : decode b_Rp_startCommand 24 = .ok (.invokevirtual 62, 3) := by decide +kernel
theorem d_Rp_startCommand_27 : decode b_Rp_startCommand 27 = .ok (.aload_n 0, 1) := by decide +kernel
theorem d_Rp_startCommand_28 : decode b_Rp_startCommand 28 = .ok (.getfield 34, 3) := by decide +kernel
theorem d_Rp_startCommand_31 : decode b_Rp_startCommand 31 = .ok (.iload_n 1, 1) := by decide +kernel
theorem d_Rp_startCommand_32 : decode b_Rp_startCommand 32 = .ok (.new 32, 3) := by decide +kernel
theorem d_Rp_startCommand_35 : decode b_Rp_startCommand 35 = .ok (.dup, 1) := by decide +kernel
theorem d_Rp_startCommand_36 : decode b_Rp_startCommand 36 = .ok (.iconst 0, 1) := by decide +kernel
theorem d_Rp_startCommand_37 : decode b_Rp_startCommand 37 = .ok (.iconst 1, 1) := by decide +kernel
theorem d_Rp_startCommand_38 : decode b_Rp_startCommand 38 = .ok (.iconst 1, 1) := by decide +kernel
theorem d_Rp_startCommand_39 : decode b_Rp_startCommand 39 = .ok (.iconst 0, 1) := by decide +kernel
theorem d_Rp_startCommand_40 : decode b_Rp_startCommand 40 = .ok (.invokespecial 66, 3) := by decide +kernel
theorem d_Rp_startCommand_43 : decode b_Rp_startCommand 43 = .ok (.aastore, 1) := by decide +kernel
theorem d_Rp_startCommand_44 : decode b_Rp_startCommand 44 = .ok (.iconst 1, 1) := by decide +kernel
theorem d_Rp_startCommand_45 : decode b_Rp_startCommand 45 = .ok (.istore 4, 2) := by decide +kernel
theorem d_Rp_startCommand_47 : decode b_Rp_startCommand 47 = .ok (.iload 4, 2) := by decide +kernel
theorem d_Rp_startCommand_49 : decode b_Rp_startCommand 49 = .ok (.aload_n 0, 1) := by decide +kernel
theorem d_Rp_startCommand_50 : decode b_Rp_startCommand 50 = .ok (.getfield 15, 3) := by decide +kernel
theorem d_Rp_startCommand_53 : decode b_Rp_startCommand 53 = .ok (.iconst 2, 1) := by decide +kernel
theorem d_Rp_startCommand_54 : decode b_Rp_startCommand 54 = .ok (.isub, 1) := by decide +kernel
theorem d_Rp_startCommand_55 : decode b_Rp_startCommand 55 = .ok (.if_icmp .gt 48, 3) := by decide +kernel
theorem d_Rp_startCommand_58 : decode b_Rp_startCommand 58 = .ok (.aload_n 0, 1) := by decide +kernel
theorem d_Rp_startCommand_59 : decode b_Rp_startCommand 59 = .ok (.getfield 9, 3) := by decide +kernel
theorem d_Rp_startCommand_62 : decode b_Rp_startCommand 62 = .ok (.iload 4, 2) := by decide +kernel
theorem d_Rp_startCommand_64 : decode b_Rp_startCommand 64 = .ok (.iadd, 1) := by decide +kernel
theorem d_Rp_startCommand_65 : decode b_Rp_startCommand 65 = .ok (.aload_n 0, 1) := by decide +kernel
theorem d_Rp_startCommand_66 : decode b_Rp_startCommand 66 = .ok (.getfield 15, 3) := by decide +kernel
theorem d_Rp_startCommand_69 : decode b_Rp_startCommand 69 = .ok (.irem, 1) := by decide +kernel
theorem d_Rp_startCommand_70 : decode b_Rp_startCommand 70 = .ok (.istore 5, 2) := by decide +kernel
theorem d_Rp_startCommand_72 : decode b_Rp_startCommand 72 = .ok (.aload_n 0, 1) := by decide +kernel
theorem d_Rp_startCommand_73 : decode b_Rp_startCommand 73 = .ok (.getfield 21, 3) := by decide +kernel
theorem d_Rp_startCommand_76 : decode b_Rp_startCommand 76 = .ok (.new 69, 3) := by decide +kernel
theorem d_Rp_startCommand_79 : decode b_Rp_startCommand 79 = .ok (.dup, 1) := by decide +kernel
theorem d_Rp_startCommand_80 : decode b_Rp_startCommand 80 = .ok (.iconst 0, 1) := by decide +kernel
theorem d_Rp_startCommand_81 : decode b_Rp_startCommand 81 = .ok (.aload_n 0, 1) := by decide +kernel
theorem d_Rp_startCommand_82 : decode b_Rp_startCommand 82 = .ok (.getfield 9, 3) := by decide +kernel
theorem d_Rp_startCommand_85 : decode b_Rp_startCommand 85 = .ok (.iload 5, 2) := by decide +kernel
theorem d_Rp_startCommand_87 : decode b_Rp_startCommand 87 = .ok (.iload_n 1, 1) := by decide +kernel
theorem d_Rp_startCommand_88 : decode b_Rp_startCommand 88 = .ok (.iconst 0, 1) := by decide +kernel
theorem d_Rp_startCommand_89 : decode b_Rp_startCommand 89 = .ok (.aload_n 3, 1) := by decide +kernel
theorem d_Rp_startCommand_90 : decode b_Rp_startCommand 90 = .ok (.aconst_null, 1) := by decide +kernel
theorem d_Rp_startCommand_91 : decode b_Rp_startCommand 91 = .ok (.invokespecial 71, 3) := by decide +kernel
theorem d_Rp_startCommand_94 : decode b_Rp_startCommand 94 = .ok (.invokevirtual 74, 3) := by decide +kernel
theorem d_Rp_startCommand_97 : decode b_Rp_startCommand 97 = .ok (.iinc 4 1, 3) := by decide +kernel
theorem d_Rp_startCommand_100 : decode b_Rp_startCommand 100 = .ok (.goto (-53), 3) := by decide +kernel
theorem d_Rp_startCommand_103 : decode b_Rp_startCommand 103 = .ok (.return_, 1) := by decide +kernel
theorem d_LM_propose_0 : decode b_LM_propose 0 = .ok (.aload_n 0, 1) := by decide +kernel
theorem d_LM_propose_1 : decode b_LM_propose 1 = .ok (.iload_n 1, 1) := by decide +kernel
theorem d_LM_propose_2 : decode b_LM_propose 2 = .ok (.invokevirtual 32, 3) := by decide +kernel
theorem d_LM_propose_5 : decode b_LM_propose 5 = .ok (.astore 5, 2) := by decide +kernel
theorem d_LM_propose_7 : decode b_LM_propose 7 = .ok (.aload 5, 2) := by decide +kernel
theorem d_LM_propose_9 : decode b_LM_propose 9 = .ok (.ifnull 11, 3) := by decide +kernel
theorem d_LM_propose_12 : decode b_LM_propose 12 = .ok (.aload_n 0, 1) := by decide +kernel
theorem d_LM_propose_13 : decode b_LM_propose 13 = .ok (.iload_n 2, 1) := by decide +kernel
theorem d_LM_propose_14 : decode b_LM_propose 14 = .ok (.invokevirtual 36, 3) := by decide +kernel
theorem d_LM_propose_17 : decode b_LM_propose 17 = .ok (.ifCond .ne 5, 3) := by decide +kernel
theorem d_LM_propose_20 : decode b_LM_propose 20 = .ok (.iconst (-1), 1) := by decide +kernel
theorem d_LM_propose_21 : decode b_LM_propose 21 = .ok (.ireturn, 1) := by decide +kernel
theorem d_LM_propose_22 : decode b_LM_propose 22 = .ok (.aload 5, 2) := by decide +kernel
theorem d_LM_propose_24 : decode b_LM_propose 24 = .ok (.invokevirtual 40, 3) := by decide +kernel
theorem d_LM_propose_27 : decode b_LM_propose 27 = .ok (.istore 6, 2) := by decide +kernel
theorem d_LM_propose_29 : decode b_LM_propose 29 = .ok (.iload 6, 2) := by decide +kernel
theorem d_LM_propose_31 : decode b_LM_propose 31 = .ok (.ifCond .lt 29, 3) := by decide +kernel
theorem d_LM_propose_34 : decode b_LM_propose 34 = .ok (.aload 5, 2) := by decide +kernel
theorem d_LM_propose_36 : decode b_LM_propose 36 = .ok (.iload 6, 2) := by decide +kernel
theorem d_LM_propose_38 : decode b_LM_propose 38 = .ok (.new 44, 3) := by decide +kernel
theorem d_LM_propose_41 : decode b_LM_propose 41 = .ok (.dup, 1) := by decide +kernel
theorem d_LM_propose_42 : decode b_LM_propose 42 = .ok (.iload_n 3, 1) := by decide +kernel
theorem d_LM_propose_43 : decode b_LM_propose 43 = .ok (.ifCond .eq 7, 3) := by decide +kernel
theorem d_LM_propose_46 : decode b_LM_propose 46 = .ok (.iconst 1, 1) := by decide +kernel
theorem d_LM_propose_47 : decode b_LM_propose 47 = .ok (.goto 4, 3) := by decide +kernel
theorem d_LM_propose_50 : decode b_LM_propose 50 = .ok (.iconst 0, 1) := by decide +kernel
theorem d_LM_propose_51 : decode b_LM_propose 51 = .ok (.iload_n 2, 1) := by decide +kernel
theorem d_LM_propose_52 : decode b_LM_propose 52 = .ok (.iload 4, 2) := by decide +kernel
theorem d_LM_propose_54 : decode b_LM_propose 54 = .ok (.invokespecial 46, 3) := by decide +kernel
theorem d_LM_propose_57 : decode b_LM_propose 57 = .ok (.invokevirtual 49, 3) := by decide +kernel
theorem d_LM_propose_60 : decode b_LM_propose 60 = .ok (.iload 6, 2) := by decide +kernel
theorem d_LM_propose_62 : decode b_LM_propose 62 = .ok (.ireturn, 1) := by decide +kernel
theorem d_LM_entryAt_0 : decode b_LM_entryAt 0 = .ok (.aload_n 0, 1) := by decide +kernel
theorem d_LM_entryAt_1 : decode b_LM_entryAt 1 = .ok (.iload_n 1, 1) := by decide +kernel
theorem d_LM_entryAt_2 : decode b_LM_entryAt 2 = .ok (.invokevirtual 150, 3) := by decide +kernel
theorem d_LM_entryAt_5 : decode b_LM_entryAt 5 = .ok (.ifCond .eq 22, 3) := by decide +kernel
theorem d_LM_entryAt_8 : decode b_LM_entryAt 8 = .ok (.iload_n 2, 1) := by decide +kernel
theorem d_LM_entryAt_9 : decode b_LM_entryAt 9 = .ok (.ifCond .lt 18, 3) := by decide +kernel
theorem d_LM_entryAt_12 : decode b_LM_entryAt 12 = .ok (.iload_n 2, 1) := by decide +kernel
theorem d_LM_entryAt_13 : decode b_LM_entryAt 13 = .ok (.bipush 6, 2) := by decide +kernel
theorem d_LM_entryAt_15 : decode b_LM_entryAt 15 = .ok (.aload_n 0, 1) := by decide +kernel
theorem d_LM_entryAt_16 : decode b_LM_entryAt 16 = .ok (.getfield 7, 3) := by decide +kernel
theorem d_LM_entryAt_19 : decode b_LM_entryAt 19 = .ok (.imul, 1) := by decide +kernel
theorem d_LM_entryAt_20 : decode b_LM_entryAt 20 = .ok (.if_icmp .ge 7, 3) := by decide +kernel
theorem d_LM_entryAt_23 : decode b_LM_entryAt 23 = .ok (.iconst 1, 1) := by decide +kernel
theorem d_LM_entryAt_24 : decode b_LM_entryAt 24 = .ok (.goto 4, 3) := by decide +kernel
theorem d_LM_entryAt_27 : decode b_LM_entryAt 27 = .ok (.iconst 0, 1) := by decide +kernel
theorem d_LM_entryAt_28 : decode b_LM_entryAt 28 = .ok (.istore_n 3, 1) := by decide +kernel
theorem d_LM_entryAt_29 : decode b_LM_entryAt 29 = .ok (.iload_n 3, 1) := by decide +kernel
theorem d_LM_entryAt_30 : decode b_LM_entryAt 30 = .ok (.ifCond .eq 17, 3) := by decide +kernel
theorem d_LM_entryAt_33 : decode b_LM_entryAt 33 = .ok (.aload_n 0, 1) := by decide +kernel
theorem d_LM_entryAt_34 : decode b_LM_entryAt 34 = .ok (.getfield 25, 3) := by decide +kernel
theorem d_LM_entryAt_37 : decode b_LM_entryAt 37 = .ok (.iload_n 1, 1) := by decide +kernel
theorem d_LM_entryAt_38 : decode b_LM_entryAt 38 = .ok (.aaload, 1) := by decide +kernel
theorem d_LM_entryAt_39 : decode b_LM_entryAt 39 = .ok (.getfield 94, 3) := by decide +kernel
theorem d_LM_entryAt_42 : decode b_LM_entryAt 42 = .ok (.iload_n 2, 1) := by decide +kernel
theorem d_LM_entryAt_43 : decode b_LM_entryAt 43 = .ok (.aaload, 1) := by decide +kernel
theorem d_LM_entryAt_44 : decode b_LM_entryAt 44 = .ok (.goto 4, 3) := by decide +kernel
theorem d_LM_entryAt_47 : decode b_LM_entryAt 47 = .ok (.aconst_null, 1) := by decide +kernel
theorem d_LM_entryAt_48 : decode b_LM_entryAt 48 = .ok (.areturn, 1) := by decide +kernel
theorem d_En_isSettled_0 : decode b_En_isSettled 0 = .ok (.aload_n 0, 1) := by decide +kernel
theorem d_En_isSettled_1 : decode b_En_isSettled 1 = .ok (.getfield 9, 3) := by decide +kernel
theorem d_En_isSettled_4 : decode b_En_isSettled 4 = .ok (.iconst 3, 1) := by decide +kernel
theorem d_En_isSettled_5 : decode b_En_isSettled 5 = .ok (.if_icmp .eq 11, 3) := by decide +kernel
theorem d_En_isSettled_8 : decode b_En_isSettled 8 = .ok (.aload_n 0, 1) := by decide +kernel
theorem d_En_isSettled_9 : decode b_En_isSettled 9 = .ok (.getfield 9, 3) := by decide +kernel
theorem d_En_isSettled_12 : decode b_En_isSettled 12 = .ok (.iconst 4, 1) := by decide +kernel
theorem d_En_isSettled_13 : decode b_En_isSettled 13 = .ok (.if_icmp .ne 7, 3) := by decide +kernel
theorem d_En_isSettled_16 : decode b_En_isSettled 16 = .ok (.iconst 1, 1) := by decide +kernel
theorem d_En_isSettled_17 : decode b_En_isSettled 17 = .ok (.goto 4, 3) := by decide +kernel
theorem d_En_isSettled_20 : decode b_En_isSettled 20 = .ok (.iconst 0, 1) := by decide +kernel
theorem d_En_isSettled_21 : decode b_En_isSettled 21 = .ok (.ireturn, 1) := by decide +kernel
theorem d_Rp_nextBallot_0 : decode b_Rp_nextBallot 0 = .ok (.iload_n 1, 1) := by decide +kernel
theorem d_Rp_nextBallot_1 : decode b_Rp_nextBallot 1 = .ok (.iload_n 1, 1) := by decide +kernel
theorem d_Rp_nextBallot_2 : decode b_Rp_nextBallot 2 = .ok (.aload_n 0, 1) := by decide +kernel
theorem d_Rp_nextBallot_3 : decode b_Rp_nextBallot 3 = .ok (.getfield 15, 3) := by decide +kernel
theorem d_Rp_nextBallot_6 : decode b_Rp_nextBallot 6 = .ok (.irem, 1) := by decide +kernel
theorem d_Rp_nextBallot_7 : decode b_Rp_nextBallot 7 = .ok (.isub, 1) := by decide +kernel
theorem d_Rp_nextBallot_8 : decode b_Rp_nextBallot 8 = .ok (.aload_n 0, 1) := by decide +kernel
theorem d_Rp_nextBallot_9 : decode b_Rp_nextBallot 9 = .ok (.getfield 9, 3) := by decide +kernel
theorem d_Rp_nextBallot_12 : decode b_Rp_nextBallot 12 = .ok (.iadd, 1) := by decide +kernel
theorem d_Rp_nextBallot_13 : decode b_Rp_nextBallot 13 = .ok (.istore_n 2, 1) := by decide +kernel
theorem d_Rp_nextBallot_14 : decode b_Rp_nextBallot 14 = .ok (.iload_n 2, 1) := by decide +kernel
theorem d_Rp_nextBallot_15 : decode b_Rp_nextBallot 15 = .ok (.iload_n 1, 1) := by decide +kernel
theorem d_Rp_nextBallot_16 : decode b_Rp_nextBallot 16 = .ok (.if_icmp .le 7, 3) := by decide +kernel
theorem d_Rp_nextBallot_19 : decode b_Rp_nextBallot 19 = .ok (.iload_n 2, 1) := by decide +kernel
theorem d_Rp_nextBallot_20 : decode b_Rp_nextBallot 20 = .ok (.goto 9, 3) := by decide +kernel
theorem d_Rp_nextBallot_23 : decode b_Rp_nextBallot 23 = .ok (.iload_n 2, 1) := by decide +kernel
theorem d_Rp_nextBallot_24 : decode b_Rp_nextBallot 24 = .ok (.aload_n 0, 1) := by decide +kernel
theorem d_Rp_nextBallot_25 : decode b_Rp_nextBallot 25 = .ok (.getfield 15, 3) := by decide +kernel
theorem d_Rp_nextBallot_28 : decode b_Rp_nextBallot 28 = .ok (.iadd, 1) := by decide +kernel
theorem d_Rp_nextBallot_29 : decode b_Rp_nextBallot 29 = .ok (.ireturn, 1) := by decide +kernel
theorem d_Rp_sendToOthers_0 : decode b_Rp_sendToOthers 0 = .ok (.iconst 0, 1) := by decide +kernel
theorem d_Rp_sendToOthers_1 : decode b_Rp_sendToOthers 1 = .ok (.istore 5, 2) := by decide +kernel
theorem d_Rp_sendToOthers_3 : decode b_Rp_sendToOthers 3 = .ok (.iload 5, 2) := by decide +kernel
theorem d_Rp_sendToOthers_5 : decode b_Rp_sendToOthers 5 = .ok (.aload_n 0, 1) := by decide +kernel
theorem d_Rp_sendToOthers_6 : decode b_Rp_sendToOthers 6 = .ok (.getfield 15, 3) := by decide +kernel
theorem d_Rp_sendToOthers_9 : decode b_Rp_sendToOthers 9 = .ok (.if_icmp .ge 44, 3) := by decide +kernel
theorem d_Rp_sendToOthers_12 : decode b_Rp_sendToOthers 12 = .ok (.iload 5, 2) := by decide +kernel
theorem d_Rp_sendToOthers_14 : decode b_Rp_sendToOthers 14 = .ok (.aload_n 0, 1) := by decide +kernel
theorem d_Rp_sendToOthers_15 : decode b_Rp_sendToOthers 15 = .ok (.getfield 9, 3) := by decide +kernel
theorem d_Rp_sendToOthers_18 : decode b_Rp_sendToOthers 18 = .ok (.if_icmp .eq 29, 3) := by decide +kernel
theorem d_Rp_sendToOthers_21 : decode b_Rp_sendToOthers 21 = .ok (.aload_n 0, 1) := by decide +kernel
theorem d_Rp_sendToOthers_22 : decode b_Rp_sendToOthers 22 = .ok (.getfield 21, 3) := by decide +kernel
theorem d_Rp_sendToOthers_25 : decode b_Rp_sendToOthers 25 = .ok (.new 69, 3) := by decide +kernel
theorem d_Rp_sendToOthers_28 : decode b_Rp_sendToOthers 28 = .ok (.dup, 1) := by decide +kernel
theorem d_Rp_sendToOthers_29 : decode b_Rp_sendToOthers 29 = .ok (.iload_n 1, 1) := by decide +kernel
theorem d_Rp_sendToOthers_30 : decode b_Rp_sendToOthers 30 = .ok (.aload_n 0, 1) := by decide +kernel
theorem d_Rp_sendToOthers_31 : decode b_Rp_sendToOthers 31 = .ok (.getfield 9, 3) := by decide +kernel
theorem d_Rp_sendToOthers_34 : decode b_Rp_sendToOthers 34 = .ok (.iload 5, 2) := by decide +kernel
theorem d_Rp_sendToOthers_36 : decode b_Rp_sendToOthers 36 = .ok (.iload_n 2, 1) := by decide +kernel
theorem d_Rp_sendToOthers_37 : decode b_Rp_sendToOthers 37 = .ok (.iload_n 3, 1) := by decide +kernel
theorem d_Rp_sendToOthers_38 : decode b_Rp_sendToOthers 38 = .ok (.aload 4, 2) := by decide +kernel
theorem d_Rp_sendToOthers_40 : decode b_Rp_sendToOthers 40 = .ok (.aconst_null, 1) := by decide +kernel
theorem d_Rp_sendToOthers_41 : decode b_Rp_sendToOthers 41 = .ok (.invokespecial 71, 3) := by decide +kernel
theorem d_Rp_sendToOthers_44 : decode b_Rp_sendToOthers 44 = .ok (.invokevirtual 74, 3) := by decide +kernel
theorem d_Rp_sendToOthers_47 : decode b_Rp_sendToOthers 47 = .ok (.iinc 5 1, 3) := by decide +kernel
theorem d_Rp_sendToOthers_50 : decode b_Rp_sendToOthers 50 = .ok (.goto (-47), 3) := by decide +kernel
theorem d_Rp_sendToOthers_53 : decode b_Rp_sendToOthers 53 = .ok (.return_, 1) := by decide +kernel
theorem d_Rp_startPreparing_0 : decode b_Rp_startPreparing 0 = .ok (.aload_n 0, 1) := by decide +kernel
theorem d_Rp_startPreparing_1 : decode b_Rp_startPreparing 1 = .ok (.aload_n 0, 1) := by decide +kernel
theorem d_Rp_startPreparing_2 : decode b_Rp_startPreparing 2 = .ok (.getfield 27, 3) := by decide +kernel
theorem d_Rp_startPreparing_5 : decode b_Rp_startPreparing 5 = .ok (.iload_n 1, 1) := by decide +kernel
theorem d_Rp_startPreparing_6 : decode b_Rp_startPreparing 6 = .ok (.aaload, 1) := by decide +kernel
theorem d_Rp_startPreparing_7 : decode b_Rp_startPreparing 7 = .ok (.getfield 50, 3) := by decide +kernel
theorem d_Rp_startPreparing_10 : decode b_Rp_startPreparing 10 = .ok (.invokevirtual 80, 3) := by decide +kernel
theorem d_Rp_startPreparing_13 : decode b_Rp_startPreparing 13 = .ok (.istore_n 2, 1) := by decide +kernel
theorem d_Rp_startPreparing_14 : decode b_Rp_startPreparing 14 = .ok (.aload_n 0, 1) := by decide +kernel
theorem d_Rp_startPreparing_15 : decode b_Rp_startPreparing 15 = .ok (.getfield 27, 3) := by decide +kernel
theorem d_Rp_startPreparing_18 : decode b_Rp_startPreparing 18 = .ok (.iload_n 1, 1) := by decide +kernel
theorem d_Rp_startPreparing_19 : decode b_Rp_startPreparing 19 = .ok (.aaload, 1) := by decide +kernel
theorem d_Rp_startPreparing_20 : decode b_Rp_startPreparing 20 = .ok (.iload_n 2, 1) := by decide +kernel
theorem d_Rp_startPreparing_21 : decode b_Rp_startPreparing 21 = .ok (.putfield 50, 3) := by decide +kernel
theorem d_Rp_startPreparing_24 : decode b_Rp_startPreparing 24 = .ok (.aload_n 0, 1) := by decide +kernel
theorem d_Rp_startPreparing_25 : decode b_Rp_startPreparing 25 = .ok (.getfield 34, 3) := by decide +kernel
theorem d_Rp_startPreparing_28 : decode b_Rp_startPreparing 28 = .ok (.iload_n 1, 1) := by decide +kernel
theorem d_Rp_startPreparing_29 : decode b_Rp_startPreparing 29 = .ok (.new 32, 3) := by decide +kernel
theorem d_Rp_startPreparing_32 : decode b_Rp_startPreparing 32 = .ok (.dup, 1) := by decide +kernel
theorem d_Rp_startPreparing_33 : decode b_Rp_startPreparing 33 = .ok (.iload_n 2, 1) := by decide +kernel
theorem d_Rp_startPreparing_34 : decode b_Rp_startPreparing 34 = .ok (.iconst 0, 1) := by decide +kernel
theorem d_Rp_startPreparing_35 : decode b_Rp_startPreparing 35 = .ok (.iconst 0, 1) := by decide +kernel
theorem d_Rp_startPreparing_36 : decode b_Rp_startPreparing 36 = .ok (.aload_n 0, 1) := by decide +kernel
theorem d_Rp_startPreparing_37 : decode b_Rp_startPreparing 37 = .ok (.getfield 18, 3) := by decide +kernel
theorem d_Rp_startPreparing_40 : decode b_Rp_startPreparing 40 = .ok (.iconst 1, 1) := by decide +kernel
theorem d_Rp_startPreparing_41 : decode b_Rp_startPreparing 41 = .ok (.iadd, 1) := by decide +kernel
theorem d_Rp_startPreparing_42 : decode b_Rp_startPreparing 42 = .ok (.invokespecial 66, 3) := by decide +kernel
theorem d_Rp_startPreparing_45 : decode b_Rp_startPreparing 45 = .ok (.aastore, 1) := by decide +kernel
theorem d_Rp_startPreparing_46 : decode b_Rp_startPreparing 46 = .ok (.aload_n 0, 1) := by decide +kernel
theorem d_Rp_startPreparing_47 : decode b_Rp_startPreparing 47 = .ok (.iconst 5, 1) := by decide +kernel
theorem d_Rp_startPreparing_48 : decode b_Rp_startPreparing 48 = .ok (.iload_n 1, 1) := by decide +kernel
theorem d_Rp_startPreparing_49 : decode b_Rp_startPreparing 49 = .ok (.iload_n 2, 1) := by decide +kernel
theorem d_Rp_startPreparing_50 : decode b_Rp_startPreparing 50 = .ok (.aconst_null, 1) := by decide +kernel
theorem d_Rp_startPreparing_51 : decode b_Rp_startPreparing 51 = .ok (.invokevirtual 84, 3) := by decide +kernel
theorem d_Rp_startPreparing_54 : decode b_Rp_startPreparing 54 = .ok (.iload_n 2, 1) := by decide +kernel
theorem d_Rp_startPreparing_55 : decode b_Rp_startPreparing 55 = .ok (.ireturn, 1) := by decide +kernel
theorem d_LM_prepare_0 : decode b_LM_prepare 0 = .ok (.aload_n 0, 1) := by decide +kernel
theorem d_LM_prepare_1 : decode b_LM_prepare 1 = .ok (.iload_n 1, 1) := by decide +kernel
theorem d_LM_prepare_2 : decode b_LM_prepare 2 = .ok (.invokevirtual 32, 3) := by decide +kernel
theorem d_LM_prepare_5 : decode b_LM_prepare 5 = .ok (.astore_n 3, 1) := by decide +kernel
theorem d_LM_prepare_6 : decode b_LM_prepare 6 = .ok (.aload_n 0, 1) := by decide +kernel
theorem d_LM_prepare_7 : decode b_LM_prepare 7 = .ok (.iload_n 1, 1) := by decide +kernel
theorem d_LM_prepare_8 : decode b_LM_prepare 8 = .ok (.iload_n 2, 1) := by decide +kernel
theorem d_LM_prepare_9 : decode b_LM_prepare 9 = .ok (.invokevirtual 53, 3) := by decide +kernel
theorem d_LM_prepare_12 : decode b_LM_prepare 12 = .ok (.astore 4, 2) := by decide +kernel
theorem d_LM_prepare_14 : decode b_LM_prepare 14 = .ok (.aload_n 3, 1) := by decide +kernel
theorem d_LM_prepare_15 : decode b_LM_prepare 15 = .ok (.ifnull 16, 3) := by decide +kernel
theorem d_LM_prepare_18 : decode b_LM_prepare 18 = .ok (.aload 4, 2) := by decide +kernel
theorem d_LM_prepare_20 : decode b_LM_prepare 20 = .ok (.ifnull 11, 3) := by decide +kernel
theorem d_LM_prepare_23 : decode b_LM_prepare 23 = .ok (.aload 4, 2) := by decide +kernel
theorem d_LM_prepare_25 : decode b_LM_prepare 25 = .ok (.invokevirtual 57, 3) := by decide +kernel
theorem d_LM_prepare_28 : decode b_LM_prepare 28 = .ok (.ifCond .eq 5, 3) := by decide +kernel
theorem d_LM_prepare_31 : decode b_LM_prepare 31 = .ok (.iconst (-1), 1) := by decide +kernel
theorem d_LM_prepare_32 : decode b_LM_prepare 32 = .ok (.ireturn, 1) := by decide +kernel
theorem d_LM_prepare_33 : decode b_LM_prepare 33 = .ok (.aload_n 3, 1) := by decide +kernel
theorem d_LM_prepare_34 : decode b_LM_prepare 34 = .ok (.iload_n 2, 1) := by decide +kernel
theorem d_LM_prepare_35 : decode b_LM_prepare 35 = .ok (.invokevirtual 63, 3) := by decide +kernel
theorem d_LM_prepare_38 : decode b_LM_prepare 38 = .ok (.ireturn, 1) := by decide +kernel
theorem d_Net_at_0 : decode b_Net_at 0 = .ok (.iload_n 1, 1) := by decide +kernel
theorem d_Net_at_1 : decode b_Net_at 1 = .ok (.ifCond .lt 20, 3) := by decide +kernel
theorem d_Net_at_4 : decode b_Net_at 4 = .ok (.iload_n 1, 1) := by decide +kernel
theorem d_Net_at_5 : decode b_Net_at 5 = .ok (.aload_n 0, 1) := by decide +kernel
theorem d_Net_at_6 : decode b_Net_at 6 = .ok (.getfield 17, 3) := by decide +kernel
theorem d_Net_at_9 : decode b_Net_at 9 = .ok (.if_icmp .ge 12, 3) := by decide +kernel
theorem d_Net_at_12 : decode b_Net_at 12 = .ok (.aload_n 0, 1) := by decide +kernel
theorem d_Net_at_13 : decode b_Net_at 13 = .ok (.getfield 11, 3) := by decide +kernel
theorem d_Net_at_16 : decode b_Net_at 16 = .ok (.iload_n 1, 1) := by decide +kernel
theorem d_Net_at_17 : decode b_Net_at 17 = .ok (.aaload, 1) := by decide +kernel
theorem d_Net_at_18 : decode b_Net_at 18 = .ok (.goto 4, 3) := by decide +kernel
theorem d_Net_at_21 : decode b_Net_at 21 = .ok (.aconst_null, 1) := by decide +kernel
theorem d_Net_at_22 : decode b_Net_at 22 = .ok (.areturn, 1) := by decide +kernel
theorem d_Net_take_0 : decode b_Net_take 0 = .ok (.aload_n 0, 1) := by decide +kernel
theorem d_Net_take_1 : decode b_Net_take 1 = .ok (.iload_n 1, 1) := by decide +kernel
theorem d_Net_take_2 : decode b_Net_take 2 = .ok (.invokevirtual 24, 3) := by decide +kernel
theorem d_Net_take_5 : decode b_Net_take 5 = .ok (.astore_n 2, 1) := by decide +kernel
theorem d_Net_take_6 : decode b_Net_take 6 = .ok (.aload_n 2, 1) := by decide +kernel
theorem d_Net_take_7 : decode b_Net_take 7 = .ok (.ifnonnull 5, 3) := by decide +kernel
theorem d_Net_take_10 : decode b_Net_take 10 = .ok (.aconst_null, 1) := by decide +kernel
theorem d_Net_take_11 : decode b_Net_take 11 = .ok (.areturn, 1) := by decide +kernel
theorem d_Net_take_12 : decode b_Net_take 12 = .ok (.aload_n 0, 1) := by decide +kernel
theorem d_Net_take_13 : decode b_Net_take 13 = .ok (.dup, 1) := by decide +kernel
theorem d_Net_take_14 : decode b_Net_take 14 = .ok (.getfield 17, 3) := by decide +kernel
theorem d_Net_take_17 : decode b_Net_take 17 = .ok (.iconst 1, 1) := by decide +kernel
theorem d_Net_take_18 : decode b_Net_take 18 = .ok (.isub, 1) := by decide +kernel
theorem d_Net_take_19 : decode b_Net_take 19 = .ok (.putfield 17, 3) := by decide +kernel
theorem d_Net_take_22 : decode b_Net_take 22 = .ok (.iload_n 1, 1) := by decide +kernel
theorem d_Net_take_23 : decode b_Net_take 23 = .ok (.istore_n 3, 1) := by decide +kernel
theorem d_Net_take_24 : decode b_Net_take 24 = .ok (.iload_n 3, 1) := by decide +kernel
theorem d_Net_take_25 : decode b_Net_take 25 = .ok (.aload_n 0, 1) := by decide +kernel
theorem d_Net_take_26 : decode b_Net_take 26 = .ok (.getfield 17, 3) := by decide +kernel
theorem d_Net_take_29 : decode b_Net_take 29 = .ok (.if_icmp .ge 23, 3) := by decide +kernel
theorem d_Net_take_32 : decode b_Net_take 32 = .ok (.aload_n 0, 1) := by decide +kernel
theorem d_Net_take_33 : decode b_Net_take 33 = .ok (.getfield 11, 3) := by decide +kernel
theorem d_Net_take_36 : decode b_Net_take 36 = .ok (.iload_n 3, 1) := by decide +kernel
theorem d_Net_take_37 : decode b_Net_take 37 = .ok (.aload_n 0, 1) := by decide +kernel
theorem d_Net_take_38 : decode b_Net_take 38 = .ok (.getfield 11, 3) := by decide +kernel
theorem d_Net_take_41 : decode b_Net_take 41 = .ok (.iload_n 3, 1) := by decide +kernel
theorem d_Net_take_42 : decode b_Net_take 42 = .ok (.iconst 1, 1) := by decide +kernel
theorem d_Net_take_43 : decode b_Net_take 43 = .ok (.iadd, 1) := by decide +kernel
theorem d_Net_take_44 : decode b_Net_take 44 = .ok (.aaload, 1) := by decide +kernel
theorem d_Net_take_45 : decode b_Net_take 45 = .ok (.aastore, 1) := by decide +kernel
theorem d_Net_take_46 : decode b_Net_take 46 = .ok (.iinc 3 1, 3) := by decide +kernel
theorem d_Net_take_49 : decode b_Net_take 49 = .ok (.goto (-25), 3) := by decide +kernel
theorem d_Net_take_52 : decode b_Net_take 52 = .ok (.aload_n 0, 1) := by decide +kernel
theorem d_Net_take_53 : decode b_Net_take 53 = .ok (.getfield 11, 3) := by decide +kernel
theorem d_Net_take_56 : decode b_Net_take 56 = .ok (.aload_n 0, 1) := by decide +kernel
theorem d_Net_take_57 : decode b_Net_take 57 = .ok (.getfield 17, 3) := by decide +kernel
theorem d_Net_take_60 : decode b_Net_take 60 = .ok (.aconst_null, 1) := by decide +kernel
theorem d_Net_take_61 : decode b_Net_take 61 = .ok (.aastore, 1) := by decide +kernel
theorem d_Net_take_62 : decode b_Net_take 62 = .ok (.aload_n 2, 1) := by decide +kernel
theorem d_Net_take_63 : decode b_Net_take 63 = .ok (.areturn, 1) := by decide +kernel
theorem d_Ms_asksForVote_0 : decode b_Ms_asksForVote 0 = .ok (.aload_n 0, 1) := by decide +kernel
theorem d_Ms_asksForVote_1 : decode b_Ms_asksForVote 1 = .ok (.getfield 9, 3) := by decide +kernel
theorem d_Ms_asksForVote_4 : decode b_Ms_asksForVote 4 = .ok (.ifCond .eq 19, 3) := by decide +kernel
theorem d_Ms_asksForVote_7 : decode b_Ms_asksForVote 7 = .ok (.aload_n 0, 1) := by decide +kernel
theorem d_Ms_asksForVote_8 : decode b_Ms_asksForVote 8 = .ok (.getfield 9, 3) := by decide +kernel
theorem d_Ms_asksForVote_11 : decode b_Ms_asksForVote 11 = .ok (.iconst 2, 1) := by decide +kernel
theorem d_Ms_asksForVote_12 : decode b_Ms_asksForVote 12 = .ok (.if_icmp .eq 11, 3) := by decide +kernel
theorem d_Ms_asksForVote_15 : decode b_Ms_asksForVote 15 = .ok (.aload_n 0, 1) := by decide +kernel
theorem d_Ms_asksForVote_16 : decode b_Ms_asksForVote 16 = .ok (.getfield 9, 3) := by decide +kernel
theorem d_Ms_asksForVote_19 : decode b_Ms_asksForVote 19 = .ok (.iconst 5, 1) := by decide +kernel
theorem d_Ms_asksForVote_20 : decode b_Ms_asksForVote 20 = .ok (.if_icmp .ne 7, 3) := by decide +kernel
theorem d_Ms_asksForVote_23 : decode b_Ms_asksForVote 23 = .ok (.iconst 1, 1) := by decide +kernel
theorem d_Ms_asksForVote_24 : decode b_Ms_asksForVote 24 = .ok (.goto 4, 3) := by decide +kernel
theorem d_Ms_asksForVote_27 : decode b_Ms_asksForVote 27 = .ok (.iconst 0, 1) := by decide +kernel
theorem d_Ms_asksForVote_28 : decode b_Ms_asksForVote 28 = .ok (.ireturn, 1) := by decide +kernel
theorem d_Rp_sendBack_0 : decode b_Rp_sendBack 0 = .ok (.aload_n 0, 1) := by decide +kernel
theorem d_Rp_sendBack_1 : decode b_Rp_sendBack 1 = .ok (.getfield 21, 3) := by decide +kernel
theorem d_Rp_sendBack_4 : decode b_Rp_sendBack 4 = .ok (.new 69, 3) := by decide +kernel
theorem d_Rp_sendBack_7 : decode b_Rp_sendBack 7 = .ok (.dup, 1) := by decide +kernel
theorem d_Rp_sendBack_8 : decode b_Rp_sendBack 8 = .ok (.iload_n 2, 1) := by decide +kernel
theorem d_Rp_sendBack_9 : decode b_Rp_sendBack 9 = .ok (.aload_n 0, 1) := by decide +kernel
theorem d_Rp_sendBack_10 : decode b_Rp_sendBack 10 = .ok (.getfield 9, 3) := by decide +kernel
theorem d_Rp_sendBack_13 : decode b_Rp_sendBack 13 = .ok (.aload_n 1, 1) := by decide +kernel
theorem d_Rp_sendBack_14 : decode b_Rp_sendBack 14 = .ok (.getfield 241, 3) := by decide +kernel
theorem d_Rp_sendBack_17 : decode b_Rp_sendBack 17 = .ok (.aload_n 1, 1) := by decide +kernel
theorem d_Rp_sendBack_18 : decode b_Rp_sendBack 18 = .ok (.getfield 92, 3) := by decide +kernel
theorem d_Rp_sendBack_21 : decode b_Rp_sendBack 21 = .ok (.aload_n 1, 1) := by decide +kernel
theorem d_Rp_sendBack_22 : decode b_Rp_sendBack 22 = .ok (.getfield 138, 3) := by decide +kernel
theorem d_Rp_sendBack_25 : decode b_Rp_sendBack 25 = .ok (.aload_n 3, 1) := by decide +kernel
theorem d_Rp_sendBack_26 : decode b_Rp_sendBack 26 = .ok (.aload 4, 2) := by decide +kernel
theorem d_Rp_sendBack_28 : decode b_Rp_sendBack 28 = .ok (.invokespecial 71, 3) := by decide +kernel
theorem d_Rp_sendBack_31 : decode b_Rp_sendBack 31 = .ok (.invokevirtual 74, 3) := by decide +kernel
theorem d_Rp_sendBack_34 : decode b_Rp_sendBack 34 = .ok (.return_, 1) := by decide +kernel
theorem d_En_vote_0 : decode b_En_vote 0 = .ok (.aload_n 0, 1) := by decide +kernel
theorem d_En_vote_1 : decode b_En_vote 1 = .ok (.iload_n 3, 1) := by decide +kernel
theorem d_En_vote_2 : decode b_En_vote 2 = .ok (.putfield 19, 3) := by decide +kernel
theorem d_En_vote_5 : decode b_En_vote 5 = .ok (.aload_n 0, 1) := by decide +kernel
theorem d_En_vote_6 : decode b_En_vote 6 = .ok (.iload_n 3, 1) := by decide +kernel
theorem d_En_vote_7 : decode b_En_vote 7 = .ok (.putfield 22, 3) := by decide +kernel
theorem d_En_vote_10 : decode b_En_vote 10 = .ok (.aload_n 0, 1) := by decide +kernel
theorem d_En_vote_11 : decode b_En_vote 11 = .ok (.iload_n 1, 1) := by decide +kernel
theorem d_En_vote_12 : decode b_En_vote 12 = .ok (.aload_n 2, 1) := by decide +kernel
theorem d_En_vote_13 : decode b_En_vote 13 = .ok (.invokevirtual 25, 3) := by decide +kernel
theorem d_En_vote_16 : decode b_En_vote 16 = .ok (.return_, 1) := by decide +kernel
theorem d_Rp_onPreaccept_0 : decode b_Rp_onPreaccept 0 = .ok (.aload_n 2, 1) := by decide +kernel
theorem d_Rp_onPreaccept_1 : decode b_Rp_onPreaccept 1 = .ok (.getfield 47, 3) := by decide +kernel
theorem d_Rp_onPreaccept_4 : decode b_Rp_onPreaccept 4 = .ok (.iconst 2, 1) := by decide +kernel
theorem d_Rp_onPreaccept_5 : decode b_Rp_onPreaccept 5 = .ok (.if_icmp .ne 18, 3) := by decide +kernel
theorem d_Rp_onPreaccept_8 : decode b_Rp_onPreaccept 8 = .ok (.aload_n 2, 1) := by decide +kernel
theorem d_Rp_onPreaccept_9 : decode b_Rp_onPreaccept 9 = .ok (.getfield 135, 3) := by decide +kernel
theorem d_Rp_onPreaccept_12 : decode b_Rp_onPreaccept 12 = .ok (.aload_n 1, 1) := by decide +kernel
theorem d_Rp_onPreaccept_13 : decode b_Rp_onPreaccept 13 = .ok (.getfield 138, 3) := by decide +kernel
theorem d_Rp_onPreaccept_16 : decode b_Rp_onPreaccept 16 = .ok (.if_icmp .ne 7, 3) := by decide +kernel
theorem d_Rp_onPreaccept_19 : decode b_Rp_onPreaccept 19 = .ok (.iconst 1, 1) := by decide +kernel
theorem d_Rp_onPreaccept_20 : decode b_Rp_onPreaccept 20 = .ok (.goto 4, 3) := by decide +kernel
theorem d_Rp_onPreaccept_23 : decode b_Rp_onPreaccept 23 = .ok (.iconst 0, 1) := by decide +kernel
theorem d_Rp_onPreaccept_24 : decode b_Rp_onPreaccept 24 = .ok (.istore_n 3, 1) := by decide +kernel
theorem d_Rp_onPreaccept_25 : decode b_Rp_onPreaccept 25 = .ok (.aload_n 1, 1) := by decide +kernel
theorem d_Rp_onPreaccept_26 : decode b_Rp_onPreaccept 26 = .ok (.getfield 138, 3) := by decide +kernel
theorem d_Rp_onPreaccept_29 : decode b_Rp_onPreaccept 29 = .ok (.aload_n 2, 1) := by decide +kernel
theorem d_Rp_onPreaccept_30 : decode b_Rp_onPreaccept 30 = .ok (.getfield 50, 3) := by decide +kernel
theorem d_Rp_onPreaccept_33 : decode b_Rp_onPreaccept 33 = .ok (.if_icmp .lt 7, 3) := by decide +kernel
theorem d_Rp_onPreaccept_36 : decode b_Rp_onPreaccept 36 = .ok (.iload_n 3, 1) := by decide +kernel
theorem d_Rp_onPreaccept_37 : decode b_Rp_onPreaccept 37 = .ok (.ifCond .eq 4, 3) := by decide +kernel
theorem d_Rp_onPreaccept_40 : decode b_Rp_onPreaccept 40 = .ok (.return_, 1) := by decide +kernel
theorem d_Rp_onPreaccept_41 : decode b_Rp_onPreaccept 41 = .ok (.aload_n 2, 1) := by decide +kernel
theorem d_Rp_onPreaccept_42 : decode b_Rp_onPreaccept 42 = .ok (.iconst 1, 1) := by decide +kernel
theorem d_Rp_onPreaccept_43 : decode b_Rp_onPreaccept 43 = .ok (.aload_n 0, 1) := by decide +kernel
theorem d_Rp_onPreaccept_44 : decode b_Rp_onPreaccept 44 = .ok (.aload_n 1, 1) := by decide +kernel
theorem d_Rp_onPreaccept_45 : decode b_Rp_onPreaccept 45 = .ok (.getfield 92, 3) := by decide +kernel
theorem d_Rp_onPreaccept_48 : decode b_Rp_onPreaccept 48 = .ok (.aload_n 1, 1) := by decide +kernel
theorem d_Rp_onPreaccept_49 : decode b_Rp_onPreaccept 49 = .ok (.getfield 141, 3) := by decide +kernel
theorem d_Rp_onPreaccept_52 : decode b_Rp_onPreaccept 52 = .ok (.invokevirtual 58, 3) := by decide +kernel
theorem d_Rp_onPreaccept_55 : decode b_Rp_onPreaccept 55 = .ok (.aload_n 1, 1) := by decide +kernel
theorem d_Rp_onPreaccept_56 : decode b_Rp_onPreaccept 56 = .ok (.getfield 138, 3) := by decide +kernel
theorem d_Rp_onPreaccept_59 : decode b_Rp_onPreaccept 59 = .ok (.invokevirtual 142, 3) := by decide +kernel
theorem d_Rp_onPreaccept_62 : decode b_Rp_onPreaccept 62 = .ok (.aload_n 0, 1) := by decide +kernel
theorem d_Rp_onPreaccept_63 : decode b_Rp_onPreaccept 63 = .ok (.aload_n 1, 1) := by decide +kernel
theorem d_Rp_onPreaccept_64 : decode b_Rp_onPreaccept 64 = .ok (.iconst 1, 1) := by decide +kernel
theorem d_Rp_onPreaccept_65 : decode b_Rp_onPreaccept 65 = .ok (.aload_n 2, 1) := by decide +kernel
theorem d_Rp_onPreaccept_66 : decode b_Rp_onPreaccept 66 = .ok (.getfield 102, 3) := by decide +kernel
theorem d_Rp_onPreaccept_69 : decode b_Rp_onPreaccept 69 = .ok (.aconst_null, 1) := by decide +kernel
theorem d_Rp_onPreaccept_70 : decode b_Rp_onPreaccept 70 = .ok (.invokevirtual 106, 3) := by decide +kernel
theorem d_Rp_onPreaccept_73 : decode b_Rp_onPreaccept 73 = .ok (.return_, 1) := by decide +kernel
theorem d_Rp_liveAttempt_0 : decode b_Rp_liveAttempt 0 = .ok (.aload_n 0, 1) := by decide +kernel
theorem d_Rp_liveAttempt_1 : decode b_Rp_liveAttempt 1 = .ok (.getfield 34, 3) := by decide +kernel
theorem d_Rp_liveAttempt_4 : decode b_Rp_liveAttempt 4 = .ok (.aload_n 1, 1) := by decide +kernel
theorem d_Rp_liveAttempt_5 : decode b_Rp_liveAttempt 5 = .ok (.getfield 92, 3) := by decide +kernel
theorem d_Rp_liveAttempt_8 : decode b_Rp_liveAttempt 8 = .ok (.aaload, 1) := by decide +kernel
theorem d_Rp_liveAttempt_9 : decode b_Rp_liveAttempt 9 = .ok (.astore_n 3, 1) := by decide +kernel
theorem d_Rp_liveAttempt_10 : decode b_Rp_liveAttempt 10 = .ok (.aload_n 0, 1) := by decide +kernel
theorem d_Rp_liveAttempt_11 : decode b_Rp_liveAttempt 11 = .ok (.getfield 27, 3) := by decide +kernel
theorem d_Rp_liveAttempt_14 : decode b_Rp_liveAttempt 14 = .ok (.aload_n 1, 1) := by decide +kernel
theorem d_Rp_liveAttempt_15 : decode b_Rp_liveAttempt 15 = .ok (.getfield 92, 3) := by decide +kernel
theorem d_Rp_liveAttempt_18 : decode b_Rp_liveAttempt 18 = .ok (.aaload, 1) := by decide +kernel
theorem d_Rp_liveAttempt_19 : decode b_Rp_liveAttempt 19 = .ok (.astore 4, 2) := by decide +kernel
theorem d_Rp_liveAttempt_21 : decode b_Rp_liveAttempt 21 = .ok (.aload_n 3, 1) := by decide +kernel
theorem d_Rp_liveAttempt_22 : decode b_Rp_liveAttempt 22 = .ok (.ifnull 22, 3) := by decide +kernel
theorem d_Rp_liveAttempt_25 : decode b_Rp_liveAttempt 25 = .ok (.aload_n 3, 1) := by decide +kernel
theorem d_Rp_liveAttempt_26 : decode b_Rp_liveAttempt 26 = .ok (.getfield 222, 3) := by decide +kernel
theorem d_Rp_liveAttempt_29 : decode b_Rp_liveAttempt 29 = .ok (.iload_n 2, 1) := by decide +kernel
theorem d_Rp_liveAttempt_30 : decode b_Rp_liveAttempt 30 = .ok (.if_icmp .ne 14, 3) := by decide +kernel
theorem d_Rp_liveAttempt_33 : decode b_Rp_liveAttempt 33 = .ok (.aload_n 3, 1) := by decide +kernel
theorem d_Rp_liveAttempt_34 : decode b_Rp_liveAttempt 34 = .ok (.getfield 218, 3) := by decide +kernel
theorem d_Rp_liveAttempt_37 : decode b_Rp_liveAttempt 37 = .ok (.aload_n 1, 1) := by decide +kernel
theorem d_Rp_liveAttempt_38 : decode b_Rp_liveAttempt 38 = .ok (.getfield 138, 3) := by decide +kernel
theorem d_Rp_liveAttempt_41 : decode b_Rp_liveAttempt 41 = .ok (.if_icmp .eq 5, 3) := by decide +kernel
theorem d_Rp_liveAttempt_44 : decode b_Rp_liveAttempt 44 = .ok (.aconst_null, 1) := by decide +kernel
theorem d_Rp_liveAttempt_45 : decode b_Rp_liveAttempt 45 = .ok (.areturn, 1) := by decide +kernel
theorem d_Rp_liveAttempt_46 : decode b_Rp_liveAttempt 46 = .ok (.aload_n 3, 1) := by decide +kernel
theorem d_Rp_liveAttempt_47 : decode b_Rp_liveAttempt 47 = .ok (.getfield 218, 3) := by decide +kernel
theorem d_Rp_liveAttempt_50 : decode b_Rp_liveAttempt 50 = .ok (.aload 4, 2) := by decide +kernel
theorem d_Rp_liveAttempt_52 : decode b_Rp_liveAttempt 52 = .ok (.getfield 50, 3) := by decide +kernel
theorem d_Rp_liveAttempt_55 : decode b_Rp_liveAttempt 55 = .ok (.if_icmp .ne 15, 3) := by decide +kernel
theorem d_Rp_liveAttempt_58 : decode b_Rp_liveAttempt 58 = .ok (.aload 4, 2) := by decide +kernel
theorem d_Rp_liveAttempt_60 : decode b_Rp_liveAttempt 60 = .ok (.invokevirtual 99, 3) := by decide +kernel
theorem d_Rp_liveAttempt_63 : decode b_Rp_liveAttempt 63 = .ok (.ifCond .ne 7, 3) := by decide +kernel
theorem d_Rp_liveAttempt_66 : decode b_Rp_liveAttempt 66 = .ok (.aload_n 3, 1) := by decide +kernel
theorem d_Rp_liveAttempt_67 : decode b_Rp_liveAttempt 67 = .ok (.goto 4, 3) := by decide +kernel
theorem d_Rp_liveAttempt_70 : decode b_Rp_liveAttempt 70 = .ok (.aconst_null, 1) := by decide +kernel
theorem d_Rp_liveAttempt_71 : decode b_Rp_liveAttempt 71 = .ok (.areturn, 1) := by decide +kernel
