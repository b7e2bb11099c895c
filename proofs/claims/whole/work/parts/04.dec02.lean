theorem d_Sto_leastSeq_0 : decode b_Sto_leastSeq 0 = .ok (.iconst 0, 1) := by decide +kernel
theorem d_Sto_leastSeq_1 : decode b_Sto_leastSeq 1 = .ok (.istore_n 3, 1) := by decide +kernel
theorem d_Sto_leastSeq_2 : decode b_Sto_leastSeq 2 = .ok (.iconst 0, 1) := by decide +kernel
theorem d_Sto_leastSeq_3 : decode b_Sto_leastSeq 3 = .ok (.istore 4, 2) := by decide +kernel
theorem d_Sto_leastSeq_5 : decode b_Sto_leastSeq 5 = .ok (.iconst 0, 1) := by decide +kernel
theorem d_Sto_leastSeq_6 : decode b_Sto_leastSeq 6 = .ok (.istore 5, 2) := by decide +kernel
theorem d_Sto_leastSeq_8 : decode b_Sto_leastSeq 8 = .ok (.iload 5, 2) := by decide +kernel
theorem d_Sto_leastSeq_10 : decode b_Sto_leastSeq 10 = .ok (.aload_n 1, 1) := by decide +kernel
theorem d_Sto_leastSeq_11 : decode b_Sto_leastSeq 11 = .ok (.arraylength, 1) := by decide +kernel
theorem d_Sto_leastSeq_12 : decode b_Sto_leastSeq 12 = .ok (.if_icmp .ge 51, 3) := by decide +kernel
theorem d_Sto_leastSeq_15 : decode b_Sto_leastSeq 15 = .ok (.iload_n 2, 1) := by decide +kernel
theorem d_Sto_leastSeq_16 : decode b_Sto_leastSeq 16 = .ok (.iload 5, 2) := by decide +kernel
theorem d_Sto_leastSeq_18 : decode b_Sto_leastSeq 18 = .ok (.invokestatic 48, 3) := by decide +kernel
theorem d_Sto_leastSeq_21 : decode b_Sto_leastSeq 21 = .ok (.ifCond .eq 36, 3) := by decide +kernel
theorem d_Sto_leastSeq_24 : decode b_Sto_leastSeq 24 = .ok (.iload 4, 2) := by decide +kernel
theorem d_Sto_leastSeq_26 : decode b_Sto_leastSeq 26 = .ok (.ifCond .eq 25, 3) := by decide +kernel
theorem d_Sto_leastSeq_29 : decode b_Sto_leastSeq 29 = .ok (.aload_n 1, 1) := by decide +kernel
theorem d_Sto_leastSeq_30 : decode b_Sto_leastSeq 30 = .ok (.iload 5, 2) := by decide +kernel
theorem d_Sto_leastSeq_32 : decode b_Sto_leastSeq 32 = .ok (.aaload, 1) := by decide +kernel
theorem d_Sto_leastSeq_33 : decode b_Sto_leastSeq 33 = .ok (.getfield 39, 3) := by decide +kernel
theorem d_Sto_leastSeq_36 : decode b_Sto_leastSeq 36 = .ok (.getfield 67, 3) := by decide +kernel
theorem d_Sto_leastSeq_39 : decode b_Sto_leastSeq 39 = .ok (.aload_n 1, 1) := by decide +kernel
theorem d_Sto_leastSeq_40 : decode b_Sto_leastSeq 40 = .ok (.iload_n 3, 1) := by decide +kernel
theorem d_Sto_leastSeq_41 : decode b_Sto_leastSeq 41 = .ok (.aaload, 1) := by decide +kernel
theorem d_Sto_leastSeq_42 : decode b_Sto_leastSeq 42 = .ok (.getfield 39, 3) := by decide +kernel
theorem d_Sto_leastSeq_45 : decode b_Sto_leastSeq 45 = .ok (.getfield 67, 3) := by decide +kernel
theorem d_Sto_leastSeq_48 : decode b_Sto_leastSeq 48 = .ok (.if_icmp .ge 9, 3) := by decide +kernel
theorem d_Sto_leastSeq_51 : decode b_Sto_leastSeq 51 = .ok (.iload 5, 2) := by decide +kernel
theorem d_Sto_leastSeq_53 : decode b_Sto_leastSeq 53 = .ok (.istore_n 3, 1) := by decide +kernel
theorem d_Sto_leastSeq_54 : decode b_Sto_leastSeq 54 = .ok (.iconst 1, 1) := by decide +kernel
theorem d_Sto_leastSeq_55 : decode b_Sto_leastSeq 55 = .ok (.istore 4, 2) := by decide +kernel
theorem d_Sto_leastSeq_57 : decode b_Sto_leastSeq 57 = .ok (.iinc 5 1, 3) := by decide +kernel
theorem d_Sto_leastSeq_60 : decode b_Sto_leastSeq 60 = .ok (.goto (-52), 3) := by decide +kernel
theorem d_Sto_leastSeq_63 : decode b_Sto_leastSeq 63 = .ok (.iload_n 3, 1) := by decide +kernel
theorem d_Sto_leastSeq_64 : decode b_Sto_leastSeq 64 = .ok (.ireturn, 1) := by decide +kernel
theorem d_Sto_runEntry_0 : decode b_Sto_runEntry 0 = .ok (.aload_n 1, 1) := by decide +kernel
theorem d_Sto_runEntry_1 : decode b_Sto_runEntry 1 = .ok (.getfield 39, 3) := by decide +kernel
theorem d_Sto_runEntry_4 : decode b_Sto_runEntry 4 = .ok (.getfield 70, 3) := by decide +kernel
theorem d_Sto_runEntry_7 : decode b_Sto_runEntry 7 = .ok (.astore_n 2, 1) := by decide +kernel
theorem d_Sto_runEntry_8 : decode b_Sto_runEntry 8 = .ok (.aload_n 1, 1) := by decide +kernel
theorem d_Sto_runEntry_9 : decode b_Sto_runEntry 9 = .ok (.aload_n 2, 1) := by decide +kernel
theorem d_Sto_runEntry_10 : decode b_Sto_runEntry 10 = .ok (.getfield 74, 3) := by decide +kernel
theorem d_Sto_runEntry_13 : decode b_Sto_runEntry 13 = .ok (.iconst 2, 1) := by decide +kernel
theorem d_Sto_runEntry_14 : decode b_Sto_runEntry 14 = .ok (.if_icmp .ne 7, 3) := by decide +kernel
theorem d_Sto_runEntry_17 : decode b_Sto_runEntry 17 = .ok (.iconst 0, 1) := by decide +kernel
theorem d_Sto_runEntry_18 : decode b_Sto_runEntry 18 = .ok (.goto 12, 3) := by decide +kernel
theorem d_Sto_runEntry_21 : decode b_Sto_runEntry 21 = .ok (.aload_n 0, 1) := by decide +kernel
theorem d_Sto_runEntry_22 : decode b_Sto_runEntry 22 = .ok (.getfield 9, 3) := by decide +kernel
theorem d_Sto_runEntry_25 : decode b_Sto_runEntry 25 = .ok (.aload_n 2, 1) := by decide +kernel
theorem d_Sto_runEntry_26 : decode b_Sto_runEntry 26 = .ok (.getfield 79, 3) := by decide +kernel
theorem d_Sto_runEntry_29 : decode b_Sto_runEntry 29 = .ok (.iaload, 1) := by decide +kernel
theorem d_Sto_runEntry_30 : decode b_Sto_runEntry 30 = .ok (.putfield 82, 3) := by decide +kernel
theorem d_Sto_runEntry_33 : decode b_Sto_runEntry 33 = .ok (.aload_n 2, 1) := by decide +kernel
theorem d_Sto_runEntry_34 : decode b_Sto_runEntry 34 = .ok (.getfield 74, 3) := by decide +kernel
theorem d_Sto_runEntry_37 : decode b_Sto_runEntry 37 = .ok (.iconst 1, 1) := by decide +kernel
theorem d_Sto_runEntry_38 : decode b_Sto_runEntry 38 = .ok (.if_icmp .ne 16, 3) := by decide +kernel
theorem d_Sto_runEntry_41 : decode b_Sto_runEntry 41 = .ok (.aload_n 0, 1) := by decide +kernel
theorem d_Sto_runEntry_42 : decode b_Sto_runEntry 42 = .ok (.getfield 9, 3) := by decide +kernel
theorem d_Sto_runEntry_45 : decode b_Sto_runEntry 45 = .ok (.aload_n 2, 1) := by decide +kernel
theorem d_Sto_runEntry_46 : decode b_Sto_runEntry 46 = .ok (.getfield 79, 3) := by decide +kernel
theorem d_Sto_runEntry_49 : decode b_Sto_runEntry 49 = .ok (.aload_n 2, 1) := by decide +kernel
theorem d_Sto_runEntry_50 : decode b_Sto_runEntry 50 = .ok (.getfield 85, 3) := by decide +kernel
theorem d_Sto_runEntry_53 : decode b_Sto_runEntry 53 = .ok (.iastore, 1) := by decide +kernel
theorem d_Sto_runEntry_54 : decode b_Sto_runEntry 54 = .ok (.aload_n 1, 1) := by decide +kernel
theorem d_Sto_runEntry_55 : decode b_Sto_runEntry 55 = .ok (.iconst 4, 1) := by decide +kernel
theorem d_Sto_runEntry_56 : decode b_Sto_runEntry 56 = .ok (.putfield 34, 3) := by decide +kernel
theorem d_Sto_runEntry_59 : decode b_Sto_runEntry 59 = .ok (.aload_n 1, 1) := by decide +kernel
theorem d_Sto_runEntry_60 : decode b_Sto_runEntry 60 = .ok (.aload_n 0, 1) := by decide +kernel
theorem d_Sto_runEntry_61 : decode b_Sto_runEntry 61 = .ok (.getfield 18, 3) := by decide +kernel
theorem d_Sto_runEntry_64 : decode b_Sto_runEntry 64 = .ok (.putfield 88, 3) := by decide +kernel
theorem d_Sto_runEntry_67 : decode b_Sto_runEntry 67 = .ok (.aload_n 0, 1) := by decide +kernel
theorem d_Sto_runEntry_68 : decode b_Sto_runEntry 68 = .ok (.dup, 1) := by decide +kernel
theorem d_Sto_runEntry_69 : decode b_Sto_runEntry 69 = .ok (.getfield 18, 3) := by decide +kernel
theorem d_Sto_runEntry_72 : decode b_Sto_runEntry 72 = .ok (.iconst 1, 1) := by decide +kernel
theorem d_Sto_runEntry_73 : decode b_Sto_runEntry 73 = .ok (.iadd, 1) := by decide +kernel
theorem d_Sto_runEntry_74 : decode b_Sto_runEntry 74 = .ok (.putfield 18, 3) := by decide +kernel
theorem d_Sto_runEntry_77 : decode b_Sto_runEntry 77 = .ok (.return_, 1) := by decide +kernel
theorem d_Sto_runComponent_0 : decode b_Sto_runComponent 0 = .ok (.iload_n 2, 1) := by decide +kernel
theorem d_Sto_runComponent_1 : decode b_Sto_runComponent 1 = .ok (.istore_n 3, 1) := by decide +kernel
theorem d_Sto_runComponent_2 : decode b_Sto_runComponent 2 = .ok (.iconst 0, 1) := by decide +kernel
theorem d_Sto_runComponent_3 : decode b_Sto_runComponent 3 = .ok (.istore 4, 2) := by decide +kernel
theorem d_Sto_runComponent_5 : decode b_Sto_runComponent 5 = .ok (.iload 4, 2) := by decide +kernel
theorem d_Sto_runComponent_7 : decode b_Sto_runComponent 7 = .ok (.aload_n 1, 1) := by decide +kernel
theorem d_Sto_runComponent_8 : decode b_Sto_runComponent 8 = .ok (.arraylength, 1) := by decide +kernel
theorem d_Sto_runComponent_9 : decode b_Sto_runComponent 9 = .ok (.if_icmp .ge 51, 3) := by decide +kernel
theorem d_Sto_runComponent_12 : decode b_Sto_runComponent 12 = .ok (.iload_n 3, 1) := by decide +kernel
theorem d_Sto_runComponent_13 : decode b_Sto_runComponent 13 = .ok (.ifCond .eq 47, 3) := by decide +kernel
theorem d_Sto_runComponent_16 : decode b_Sto_runComponent 16 = .ok (.aload_n 0, 1) := by decide +kernel
theorem d_Sto_runComponent_17 : decode b_Sto_runComponent 17 = .ok (.aload_n 1, 1) := by decide +kernel
theorem d_Sto_runComponent_18 : decode b_Sto_runComponent 18 = .ok (.iload_n 3, 1) := by decide +kernel
theorem d_Sto_runComponent_19 : decode b_Sto_runComponent 19 = .ok (.invokevirtual 59, 3) := by decide +kernel
theorem d_Sto_runComponent_22 : decode b_Sto_runComponent 22 = .ok (.istore 5, 2) := by decide +kernel
theorem d_Sto_runComponent_24 : decode b_Sto_runComponent 24 = .ok (.aload_n 0, 1) := by decide +kernel
theorem d_Sto_runComponent_25 : decode b_Sto_runComponent 25 = .ok (.aload_n 1, 1) := by decide +kernel
theorem d_Sto_runComponent_26 : decode b_Sto_runComponent 26 = .ok (.iload 5, 2) := by decide +kernel
theorem d_Sto_runComponent_28 : decode b_Sto_runComponent 28 = .ok (.aaload, 1) := by decide +kernel
theorem d_Sto_runComponent_29 : decode b_Sto_runComponent 29 = .ok (.invokevirtual 63, 3) := by decide +kernel
theorem d_Sto_runComponent_32 : decode b_Sto_runComponent 32 = .ok (.aload_n 0, 1) := by decide +kernel
theorem d_Sto_runComponent_33 : decode b_Sto_runComponent 33 = .ok (.dup, 1) := by decide +kernel
theorem d_Sto_runComponent_34 : decode b_Sto_runComponent 34 = .ok (.getfield 56, 3) := by decide +kernel
theorem d_Sto_runComponent_37 : decode b_Sto_runComponent 37 = .ok (.iconst 1, 1) := by decide +kernel
theorem d_Sto_runComponent_38 : decode b_Sto_runComponent 38 = .ok (.iload 5, 2) := by decide +kernel
theorem d_Sto_runComponent_40 : decode b_Sto_runComponent 40 = .ok (.ishl, 1) := by decide +kernel
theorem d_Sto_runComponent_41 : decode b_Sto_runComponent 41 = .ok (.ior, 1) := by decide +kernel
theorem d_Sto_runComponent_42 : decode b_Sto_runComponent 42 = .ok (.putfield 56, 3) := by decide +kernel
theorem d_Sto_runComponent_45 : decode b_Sto_runComponent 45 = .ok (.iload_n 3, 1) := by decide +kernel
theorem d_Sto_runComponent_46 : decode b_Sto_runComponent 46 = .ok (.iconst 1, 1) := by decide +kernel
theorem d_Sto_runComponent_47 : decode b_Sto_runComponent 47 = .ok (.iload 5, 2) := by decide +kernel
theorem d_Sto_runComponent_49 : decode b_Sto_runComponent 49 = .ok (.ishl, 1) := by decide +kernel
theorem d_Sto_runComponent_50 : decode b_Sto_runComponent 50 = .ok (.iconst (-1), 1) := by decide +kernel
theorem d_Sto_runComponent_51 : decode b_Sto_runComponent 51 = .ok (.ixor, 1) := by decide +kernel
theorem d_Sto_runComponent_52 : decode b_Sto_runComponent 52 = .ok (.iand, 1) := by decide +kernel
theorem d_Sto_runComponent_53 : decode b_Sto_runComponent 53 = .ok (.istore_n 3, 1) := by decide +kernel
theorem d_Sto_runComponent_54 : decode b_Sto_runComponent 54 = .ok (.iinc 4 1, 3) := by decide +kernel
theorem d_Sto_runComponent_57 : decode b_Sto_runComponent 57 = .ok (.goto (-52), 3) := by decide +kernel
theorem d_Sto_runComponent_60 : decode b_Sto_runComponent 60 = .ok (.return_, 1) := by decide +kernel
theorem d_Sto_runReady_0 : decode b_Sto_runReady 0 = .ok (.aload_n 0, 1) := by decide +kernel
theorem d_Sto_runReady_1 : decode b_Sto_runReady 1 = .ok (.getfield 18, 3) := by decide +kernel
theorem d_Sto_runReady_4 : decode b_Sto_runReady 4 = .ok (.istore_n 2, 1) := by decide +kernel
theorem d_Sto_runReady_5 : decode b_Sto_runReady 5 = .ok (.aload_n 0, 1) := by decide +kernel
theorem d_Sto_runReady_6 : decode b_Sto_runReady 6 = .ok (.aload_n 1, 1) := by decide +kernel
theorem d_Sto_runReady_7 : decode b_Sto_runReady 7 = .ok (.invokevirtual 22, 3) := by decide +kernel
theorem d_Sto_runReady_10 : decode b_Sto_runReady 10 = .ok (.iconst 0, 1) := by decide +kernel
theorem d_Sto_runReady_11 : decode b_Sto_runReady 11 = .ok (.istore_n 3, 1) := by decide +kernel
theorem d_Sto_runReady_12 : decode b_Sto_runReady 12 = .ok (.iload_n 3, 1) := by decide +kernel
theorem d_Sto_runReady_13 : decode b_Sto_runReady 13 = .ok (.aload_n 1, 1) := by decide +kernel
theorem d_Sto_runReady_14 : decode b_Sto_runReady 14 = .ok (.arraylength, 1) := by decide +kernel
theorem d_Sto_runReady_15 : decode b_Sto_runReady 15 = .ok (.if_icmp .ge 31, 3) := by decide +kernel
theorem d_Sto_runReady_18 : decode b_Sto_runReady 18 = .ok (.aload_n 0, 1) := by decide +kernel
theorem d_Sto_runReady_19 : decode b_Sto_runReady 19 = .ok (.aload_n 1, 1) := by decide +kernel
theorem d_Sto_runReady_20 : decode b_Sto_runReady 20 = .ok (.invokevirtual 26, 3) := by decide +kernel
theorem d_Sto_runReady_23 : decode b_Sto_runReady 23 = .ok (.istore 4, 2) := by decide +kernel
theorem d_Sto_runReady_25 : decode b_Sto_runReady 25 = .ok (.iload 4, 2) := by decide +kernel
theorem d_Sto_runReady_27 : decode b_Sto_runReady 27 = .ok (.ifCond .ne 6, 3) := by decide +kernel
theorem d_Sto_runReady_30 : decode b_Sto_runReady 30 = .ok (.goto 16, 3) := by decide +kernel
theorem d_Sto_runReady_33 : decode b_Sto_runReady 33 = .ok (.aload_n 0, 1) := by decide +kernel
theorem d_Sto_runReady_34 : decode b_Sto_runReady 34 = .ok (.aload_n 1, 1) := by decide +kernel
theorem d_Sto_runReady_35 : decode b_Sto_runReady 35 = .ok (.iload 4, 2) := by decide +kernel
theorem d_Sto_runReady_37 : decode b_Sto_runReady 37 = .ok (.invokevirtual 30, 3) := by decide +kernel
theorem d_Sto_runReady_40 : decode b_Sto_runReady 40 = .ok (.iinc 3 1, 3) := by decide +kernel
theorem d_Sto_runReady_43 : decode b_Sto_runReady 43 = .ok (.goto (-31), 3) := by decide +kernel
theorem d_Sto_runReady_46 : decode b_Sto_runReady 46 = .ok (.aload_n 0, 1) := by decide +kernel
theorem d_Sto_runReady_47 : decode b_Sto_runReady 47 = .ok (.getfield 18, 3) := by decide +kernel
theorem d_Sto_runReady_50 : decode b_Sto_runReady 50 = .ok (.iload_n 2, 1) := by decide +kernel
theorem d_Sto_runReady_51 : decode b_Sto_runReady 51 = .ok (.isub, 1) := by decide +kernel
theorem d_Sto_runReady_52 : decode b_Sto_runReady 52 = .ok (.ireturn, 1) := by decide +kernel
theorem d_LM_execute_0 : decode b_LM_execute 0 = .ok (.aload_n 0, 1) := by decide +kernel
theorem d_LM_execute_1 : decode b_LM_execute 1 = .ok (.iload_n 1, 1) := by decide +kernel
theorem d_LM_execute_2 : decode b_LM_execute 2 = .ok (.invokevirtual 32, 3) := by decide +kernel
theorem d_LM_execute_5 : decode b_LM_execute 5 = .ok (.astore_n 2, 1) := by decide +kernel
theorem d_LM_execute_6 : decode b_LM_execute 6 = .ok (.aload_n 2, 1) := by decide +kernel
theorem d_LM_execute_7 : decode b_LM_execute 7 = .ok (.ifnonnull 7, 3) := by decide +kernel
theorem d_LM_execute_10 : decode b_LM_execute 10 = .ok (.iconst (-1), 1) := by decide +kernel
theorem d_LM_execute_11 : decode b_LM_execute 11 = .ok (.goto 14, 3) := by decide +kernel
theorem d_LM_execute_14 : decode b_LM_execute 14 = .ok (.aload_n 2, 1) := by decide +kernel
theorem d_LM_execute_15 : decode b_LM_execute 15 = .ok (.getfield 90, 3) := by decide +kernel
theorem d_LM_execute_18 : decode b_LM_execute 18 = .ok (.aload_n 2, 1) := by decide +kernel
theorem d_LM_execute_19 : decode b_LM_execute 19 = .ok (.getfield 94, 3) := by decide +kernel
theorem d_LM_execute_22 : decode b_LM_execute 22 = .ok (.invokevirtual 98, 3) := by decide +kernel
theorem d_LM_execute_25 : decode b_LM_execute 25 = .ok (.ireturn, 1) := by decide +kernel
theorem d_LM_waiting_0 : decode b_LM_waiting 0 = .ok (.aload_n 0, 1) := by decide +kernel
theorem d_LM_waiting_1 : decode b_LM_waiting 1 = .ok (.getfield 19, 3) := by decide +kernel
theorem d_LM_waiting_4 : decode b_LM_waiting 4 = .ok (.getfield 104, 3) := by decide +kernel
theorem d_LM_waiting_7 : decode b_LM_waiting 7 = .ok (.ireturn, 1) := by decide +kernel
theorem d_LM_message_0 : decode b_LM_message 0 = .ok (.aload_n 0, 1) := by decide +kernel
theorem d_LM_message_1 : decode b_LM_message 1 = .ok (.getfield 19, 3) := by decide +kernel
theorem d_LM_message_4 : decode b_LM_message 4 = .ok (.iload_n 1, 1) := by decide +kernel
theorem d_LM_message_5 : decode b_LM_message 5 = .ok (.invokevirtual 107, 3) := by decide +kernel
theorem d_LM_message_8 : decode b_LM_message 8 = .ok (.astore_n 2, 1) := by decide +kernel
theorem d_LM_message_9 : decode b_LM_message 9 = .ok (.aload_n 2, 1) := by decide +kernel
theorem d_LM_message_10 : decode b_LM_message 10 = .ok (.ifnonnull 5, 3) := by decide +kernel
theorem d_LM_message_13 : decode b_LM_message 13 = .ok (.iconst (-1), 1) := by decide +kernel
theorem d_LM_message_14 : decode b_LM_message 14 = .ok (.ireturn, 1) := by decide +kernel
theorem d_LM_message_15 : decode b_LM_message 15 = .ok (.aload_n 2, 1) := by decide +kernel
theorem d_LM_message_16 : decode b_LM_message 16 = .ok (.getfield 80, 3) := by decide +kernel
theorem d_LM_message_19 : decode b_LM_message 19 = .ok (.bipush 8, 2) := by decide +kernel
theorem d_LM_message_21 : decode b_LM_message 21 = .ok (.aload_n 2, 1) := by decide +kernel
theorem d_LM_message_22 : decode b_LM_message 22 = .ok (.getfield 110, 3) := by decide +kernel
theorem d_LM_message_25 : decode b_LM_message 25 = .ok (.imul, 1) := by decide +kernel
theorem d_LM_message_26 : decode b_LM_message 26 = .ok (.iadd, 1) := by decide +kernel
theorem d_LM_message_27 : decode b_LM_message 27 = .ok (.bipush 64, 2) := by decide +kernel
theorem d_LM_message_29 : decode b_LM_message 29 = .ok (.aload_n 2, 1) := by decide +kernel
theorem d_LM_message_30 : decode b_LM_message 30 = .ok (.getfield 71, 3) := by decide +kernel
theorem d_LM_message_33 : decode b_LM_message 33 = .ok (.imul, 1) := by decide +kernel
theorem d_LM_message_34 : decode b_LM_message 34 = .ok (.iadd, 1) := by decide +kernel
theorem d_LM_message_35 : decode b_LM_message 35 = .ok (.sipush 512, 3) := by decide +kernel
theorem d_LM_message_38 : decode b_LM_message 38 = .ok (.aload_n 2, 1) := by decide +kernel
theorem d_LM_message_39 : decode b_LM_message 39 = .ok (.getfield 113, 3) := by decide +kernel
theorem d_LM_message_42 : decode b_LM_message 42 = .ok (.imul, 1) := by decide +kernel
theorem d_LM_message_43 : decode b_LM_message 43 = .ok (.iadd, 1) := by decide +kernel
theorem d_LM_message_44 : decode b_LM_message 44 = .ok (.ireturn, 1) := by decide +kernel
theorem d_LM_lost_0 : decode b_LM_lost 0 = .ok (.aload_n 0, 1) := by decide +kernel
theorem d_LM_lost_1 : decode b_LM_lost 1 = .ok (.getfield 19, 3) := by decide +kernel
theorem d_LM_lost_4 : decode b_LM_lost 4 = .ok (.getfield 116, 3) := by decide +kernel
theorem d_LM_lost_7 : decode b_LM_lost 7 = .ok (.ireturn, 1) := by decide +kernel
theorem d_LM_state_0 : decode b_LM_state 0 = .ok (.aload_n 0, 1) := by decide +kernel
theorem d_LM_state_1 : decode b_LM_state 1 = .ok (.iload_n 1, 1) := by decide +kernel
theorem d_LM_state_2 : decode b_LM_state 2 = .ok (.iload_n 2, 1) := by decide +kernel
theorem d_LM_state_3 : decode b_LM_state 3 = .ok (.invokevirtual 53, 3) := by decide +kernel
theorem d_LM_state_6 : decode b_LM_state 6 = .ok (.astore_n 3, 1) := by decide +kernel
theorem d_LM_state_7 : decode b_LM_state 7 = .ok (.aload_n 3, 1) := by decide +kernel
theorem d_LM_state_8 : decode b_LM_state 8 = .ok (.ifnonnull 7, 3) := by decide +kernel
theorem d_LM_state_11 : decode b_LM_state 11 = .ok (.iconst (-1), 1) := by decide +kernel
theorem d_LM_state_12 : decode b_LM_state 12 = .ok (.goto 7, 3) := by decide +kernel
theorem d_LM_state_15 : decode b_LM_state 15 = .ok (.aload_n 3, 1) := by decide +kernel
theorem d_LM_state_16 : decode b_LM_state 16 = .ok (.getfield 119, 3) := by decide +kernel
theorem d_LM_state_19 : decode b_LM_state 19 = .ok (.ireturn, 1) := by decide +kernel
theorem d_LM_orderAt_0 : decode b_LM_orderAt 0 = .ok (.aload_n 0, 1) := by decide +kernel
theorem d_LM_orderAt_1 : decode b_LM_orderAt 1 = .ok (.iload_n 1, 1) := by decide +kernel
theorem d_LM_orderAt_2 : decode b_LM_orderAt 2 = .ok (.iload_n 2, 1) := by decide +kernel
theorem d_LM_orderAt_3 : decode b_LM_orderAt 3 = .ok (.invokevirtual 53, 3) := by decide +kernel
theorem d_LM_orderAt_6 : decode b_LM_orderAt 6 = .ok (.astore_n 3, 1) := by decide +kernel
theorem d_LM_orderAt_7 : decode b_LM_orderAt 7 = .ok (.aload_n 3, 1) := by decide +kernel
theorem d_LM_orderAt_8 : decode b_LM_orderAt 8 = .ok (.ifnonnull 7, 3) := by decide +kernel
theorem d_LM_orderAt_11 : decode b_LM_orderAt 11 = .ok (.aconst_null, 1) := by decide +kernel
theorem d_LM_orderAt_12 : decode b_LM_orderAt 12 = .ok (.goto 7, 3) := by decide +kernel
theorem d_LM_orderAt_15 : decode b_LM_orderAt 15 = .ok (.aload_n 3, 1) := by decide +kernel
theorem d_LM_orderAt_16 : decode b_LM_orderAt 16 = .ok (.getfield 157, 3) := by decide +kernel
theorem d_LM_orderAt_19 : decode b_LM_orderAt 19 = .ok (.areturn, 1) := by decide +kernel
theorem d_Cmd_code_0 : decode b_Cmd_code 0 = .ok (.aload_n 0, 1) := by decide +kernel
theorem d_Cmd_code_1 : decode b_Cmd_code 1 = .ok (.getfield 9, 3) := by decide +kernel
theorem d_Cmd_code_4 : decode b_Cmd_code 4 = .ok (.iconst 2, 1) := by decide +kernel
theorem d_Cmd_code_5 : decode b_Cmd_code 5 = .ok (.if_icmp .ne 6, 3) := by decide +kernel
theorem d_Cmd_code_8 : decode b_Cmd_code 8 = .ok (.bipush 8, 2) := by decide +kernel
theorem d_Cmd_code_10 : decode b_Cmd_code 10 = .ok (.ireturn, 1) := by decide +kernel
theorem d_Cmd_code_11 : decode b_Cmd_code 11 = .ok (.aload_n 0, 1) := by decide +kernel
theorem d_Cmd_code_12 : decode b_Cmd_code 12 = .ok (.getfield 9, 3) := by decide +kernel
theorem d_Cmd_code_15 : decode b_Cmd_code 15 = .ok (.iconst 1, 1) := by decide +kernel
theorem d_Cmd_code_16 : decode b_Cmd_code 16 = .ok (.if_icmp .ne 12, 3) := by decide +kernel
theorem d_Cmd_code_19 : decode b_Cmd_code 19 = .ok (.iconst 4, 1) := by decide +kernel
theorem d_Cmd_code_20 : decode b_Cmd_code 20 = .ok (.aload_n 0, 1) := by decide +kernel
theorem d_Cmd_code_21 : decode b_Cmd_code 21 = .ok (.getfield 15, 3) := by decide +kernel
theorem d_Cmd_code_24 : decode b_Cmd_code 24 = .ok (.iadd, 1) := by decide +kernel
theorem d_Cmd_code_25 : decode b_Cmd_code 25 = .ok (.goto 7, 3) := by decide +kernel
theorem d_Cmd_code_28 : decode b_Cmd_code 28 = .ok (.aload_n 0, 1) := by decide +kernel
theorem d_Cmd_code_29 : decode b_Cmd_code 29 = .ok (.getfield 15, 3) := by decide +kernel
theorem d_Cmd_code_32 : decode b_Cmd_code 32 = .ok (.ireturn, 1) := by decide +kernel
theorem d_LM_command_0 : decode b_LM_command 0 = .ok (.aload_n 0, 1) := by decide +kernel
theorem d_LM_command_1 : decode b_LM_command 1 = .ok (.iload_n 1, 1) := by decide +kernel
theorem d_LM_command_2 : decode b_LM_command 2 = .ok (.iload_n 2, 1) := by decide +kernel
theorem d_LM_command_3 : decode b_LM_command 3 = .ok (.invokevirtual 122, 3) := by decide +kernel
theorem d_LM_command_6 : decode b_LM_command 6 = .ok (.astore_n 3, 1) := by decide +kernel
theorem d_LM_command_7 : decode b_LM_command 7 = .ok (.aload_n 3, 1) := by decide +kernel
theorem d_LM_command_8 : decode b_LM_command 8 = .ok (.ifnonnull 7, 3) := by decide +kernel
theorem d_LM_command_11 : decode b_LM_command 11 = .ok (.iconst (-1), 1) := by decide +kernel
theorem d_LM_command_12 : decode b_LM_command 12 = .ok (.goto 10, 3) := by decide +kernel
theorem d_LM_command_15 : decode b_LM_command 15 = .ok (.aload_n 3, 1) := by decide +kernel
theorem d_LM_command_16 : decode b_LM_command 16 = .ok (.getfield 126, 3) := by decide +kernel
theorem d_LM_command_19 : decode b_LM_command 19 = .ok (.invokevirtual 132, 3) := by decide +kernel
theorem d_LM_command_22 : decode b_LM_command 22 = .ok (.ireturn, 1) := by decide +kernel
theorem d_LM_seq_0 : decode b_LM_seq 0 = .ok (.aload_n 0, 1) := by decide +kernel
theorem d_LM_seq_1 : decode b_LM_seq 1 = .ok (.iload_n 1, 1) := by decide +kernel
theorem d_LM_seq_2 : decode b_LM_seq 2 = .ok (.iload_n 2, 1) := by decide +kernel
theorem d_LM_seq_3 : decode b_LM_seq 3 = .ok (.invokevirtual 122, 3) := by decide +kernel
theorem d_LM_seq_6 : decode b_LM_seq 6 = .ok (.astore_n 3, 1) := by decide +kernel
theorem d_LM_seq_7 : decode b_LM_seq 7 = .ok (.aload_n 3, 1) := by decide +kernel
theorem d_LM_seq_8 : decode b_LM_seq 8 = .ok (.ifnonnull 7, 3) := by decide +kernel
theorem d_LM_seq_11 : decode b_LM_seq 11 = .ok (.iconst (-1), 1) := by decide +kernel
theorem d_LM_seq_12 : decode b_LM_seq 12 = .ok (.goto 7, 3) := by decide +kernel
theorem d_LM_seq_15 : decode b_LM_seq 15 = .ok (.aload_n 3, 1) := by decide +kernel
theorem d_LM_seq_16 : decode b_LM_seq 16 = .ok (.getfield 135, 3) := by decide +kernel
theorem d_LM_seq_19 : decode b_LM_seq 19 = .ok (.ireturn, 1) := by decide +kernel
theorem d_LM_deps_0 : decode b_LM_deps 0 = .ok (.aload_n 0, 1) := by decide +kernel
theorem d_LM_deps_1 : decode b_LM_deps 1 = .ok (.iload_n 1, 1) := by decide +kernel
theorem d_LM_deps_2 : decode b_LM_deps 2 = .ok (.iload_n 2, 1) := by decide +kernel
theorem d_LM_deps_3 : decode b_LM_deps 3 = .ok (.invokevirtual 122, 3) := by decide +kernel
theorem d_LM_deps_6 : decode b_LM_deps 6 = .ok (.astore_n 3, 1) := by decide +kernel
theorem d_LM_deps_7 : decode b_LM_deps 7 = .ok (.aload_n 3, 1) := by decide +kernel
theorem d_LM_deps_8 : decode b_LM_deps 8 = .ok (.ifnonnull 7, 3) := by decide +kernel
theorem d_LM_deps_11 : decode b_LM_deps 11 = .ok (.iconst (-1), 1) := by decide +kernel
theorem d_LM_deps_12 : decode b_LM_deps 12 = .ok (.goto 7, 3) := by decide +kernel
theorem d_LM_deps_15 : decode b_LM_deps 15 = .ok (.aload_n 3, 1) := by decide +kernel
theorem d_LM_deps_16 : decode b_LM_deps 16 = .ok (.getfield 138, 3) := by decide +kernel
theorem d_LM_deps_19 : decode b_LM_deps 19 = .ok (.ireturn, 1) := by decide +kernel
theorem d_LM_promised_0 : decode b_LM_promised 0 = .ok (.aload_n 0, 1) := by decide +kernel
theorem d_LM_promised_1 : decode b_LM_promised 1 = .ok (.iload_n 1, 1) := by decide +kernel
theorem d_LM_promised_2 : decode b_LM_promised 2 = .ok (.iload_n 2, 1) := by decide +kernel
theorem d_LM_promised_3 : decode b_LM_promised 3 = .ok (.invokevirtual 53, 3) := by decide +kernel
theorem d_LM_promised_6 : decode b_LM_promised 6 = .ok (.astore_n 3, 1) := by decide +kernel
theorem d_LM_promised_7 : decode b_LM_promised 7 = .ok (.aload_n 3, 1) := by decide +kernel
theorem d_LM_promised_8 : decode b_LM_promised 8 = .ok (.ifnonnull 7, 3) := by decide +kernel
theorem d_LM_promised_11 : decode b_LM_promised 11 = .ok (.iconst (-1), 1) := by decide +kernel
theorem d_LM_promised_12 : decode b_LM_promised 12 = .ok (.goto 7, 3) := by decide +kernel
theorem d_LM_promised_15 : decode b_LM_promised 15 = .ok (.aload_n 3, 1) := by decide +kernel
theorem d_LM_promised_16 : decode b_LM_promised 16 = .ok (.getfield 141, 3) := by decide +kernel
theorem d_LM_promised_19 : decode b_LM_promised 19 = .ok (.ireturn, 1) := by decide +kernel
theorem d_LM_result_0 : decode b_LM_result 0 = .ok (.aload_n 0, 1) := by decide +kernel
theorem d_LM_result_1 : decode b_LM_result 1 = .ok (.iload_n 1, 1) := by decide +kernel
theorem d_LM_result_2 : decode b_LM_result 2 = .ok (.iload_n 2, 1) := by decide +kernel
theorem d_LM_result_3 : decode b_LM_result 3 = .ok (.invokevirtual 53, 3) := by decide +kernel
theorem d_LM_result_6 : decode b_LM_result 6 = .ok (.astore_n 3, 1) := by decide +kernel
theorem d_LM_result_7 : decode b_LM_result 7 = .ok (.aload_n 3, 1) := by decide +kernel
theorem d_LM_result_8 : decode b_LM_result 8 = .ok (.ifnull 11, 3) := by decide +kernel
theorem d_LM_result_11 : decode b_LM_result 11 = .ok (.aload_n 3, 1) := by decide +kernel
theorem d_LM_result_12 : decode b_LM_result 12 = .ok (.getfield 119, 3) := by decide +kernel
theorem d_LM_result_15 : decode b_LM_result 15 = .ok (.iconst 4, 1) := by decide +kernel
theorem d_LM_result_16 : decode b_LM_result 16 = .ok (.if_icmp .eq 7, 3) := by decide +kernel
theorem d_LM_result_19 : decode b_LM_result 19 = .ok (.iconst 0, 1) := by decide +kernel
theorem d_LM_result_20 : decode b_LM_result 20 = .ok (.goto 7, 3) := by decide +kernel
theorem d_LM_result_23 : decode b_LM_result 23 = .ok (.aload_n 3, 1) := by decide +kernel
theorem d_LM_result_24 : decode b_LM_result 24 = .ok (.getfield 144, 3) := by decide +kernel
theorem d_LM_result_27 : decode b_LM_result 27 = .ok (.ireturn, 1) := by decide +kernel
theorem d_LM_place_0 : decode b_LM_place 0 = .ok (.aload_n 0, 1) := by decide +kernel
theorem d_LM_place_1 : decode b_LM_place 1 = .ok (.iload_n 1, 1) := by decide +kernel
theorem d_LM_place_2 : decode b_LM_place 2 = .ok (.iload_n 2, 1) := by decide +kernel
theorem d_LM_place_3 : decode b_LM_place 3 = .ok (.invokevirtual 53, 3) := by decide +kernel
theorem d_LM_place_6 : decode b_LM_place 6 = .ok (.astore_n 3, 1) := by decide +kernel
theorem d_LM_place_7 : decode b_LM_place 7 = .ok (.aload_n 3, 1) := by decide +kernel
theorem d_LM_place_8 : decode b_LM_place 8 = .ok (.ifnull 11, 3) := by decide +kernel
theorem d_LM_place_11 : decode b_LM_place 11 = .ok (.aload_n 3, 1) := by decide +kernel
theorem d_LM_place_12 : decode b_LM_place 12 = .ok (.getfield 119, 3) := by decide +kernel
theorem d_LM_place_15 : decode b_LM_place 15 = .ok (.iconst 4, 1) := by decide +kernel
theorem d_LM_place_16 : decode b_LM_place 16 = .ok (.if_icmp .eq 7, 3) := by decide +kernel
theorem d_LM_place_19 : decode b_LM_place 19 = .ok (.iconst (-1), 1) := by decide +kernel
theorem d_LM_place_20 : decode b_LM_place 20 = .ok (.goto 7, 3) := by decide +kernel
theorem d_LM_place_23 : decode b_LM_place 23 = .ok (.aload_n 3, 1) := by decide +kernel
theorem d_LM_place_24 : decode b_LM_place 24 = .ok (.getfield 147, 3) := by decide +kernel
theorem d_LM_place_27 : decode b_LM_place 27 = .ok (.ireturn, 1) := by decide +kernel
theorem d_LM_value_0 : decode b_LM_value 0 = .ok (.aload_n 0, 1) := by decide +kernel
theorem d_LM_value_1 : decode b_LM_value 1 = .ok (.iload_n 1, 1) := by decide +kernel
theorem d_LM_value_2 : decode b_LM_value 2 = .ok (.invokevirtual 150, 3) := by decide +kernel
theorem d_LM_value_5 : decode b_LM_value 5 = .ok (.ifCond .eq 28, 3) := by decide +kernel
theorem d_LM_value_8 : decode b_LM_value 8 = .ok (.aload_n 0, 1) := by decide +kernel
theorem d_LM_value_9 : decode b_LM_value 9 = .ok (.iload_n 2, 1) := by decide +kernel
theorem d_LM_value_10 : decode b_LM_value 10 = .ok (.invokevirtual 36, 3) := by decide +kernel
theorem d_LM_value_13 : decode b_LM_value 13 = .ok (.ifCond .eq 20, 3) := by decide +kernel
theorem d_LM_value_16 : decode b_LM_value 16 = .ok (.aload_n 0, 1) := by decide +kernel
theorem d_LM_value_17 : decode b_LM_value 17 = .ok (.getfield 25, 3) := by decide +kernel
theorem d_LM_value_20 : decode b_LM_value 20 = .ok (.iload_n 1, 1) := by decide +kernel
theorem d_LM_value_21 : decode b_LM_value 21 = .ok (.aaload, 1) := by decide +kernel
theorem d_LM_value_22 : decode b_LM_value 22 = .ok (.getfield 90, 3) := by decide +kernel
theorem d_LM_value_25 : decode b_LM_value 25 = .ok (.getfield 153, 3) := by decide +kernel
theorem d_LM_value_28 : decode b_LM_value 28 = .ok (.iload_n 2, 1) := by decide +kernel
theorem d_LM_value_29 : decode b_LM_value 29 = .ok (.iaload, 1) := by decide +kernel
theorem d_LM_value_30 : decode b_LM_value 30 = .ok (.goto 4, 3) := by decide +kernel
theorem d_LM_value_33 : decode b_LM_value 33 = .ok (.iconst 0, 1) := by decide +kernel
theorem d_LM_value_34 : decode b_LM_value 34 = .ok (.ireturn, 1) := by decide +kernel
theorem d_Md_init_0 : decode b_Md_init 0 = .ok (.aload_n 0, 1) := by decide +kernel
theorem d_Md_init_1 : decode b_Md_init 1 = .ok (.invokespecial 1, 3) := by decide +kernel
theorem d_Md_init_4 : decode b_Md_init 4 = .ok (.aload_n 0, 1) := by decide +kernel
theorem d_Md_init_5 : decode b_Md_init 5 = .ok (.iconst 5, 1) := by decide +kernel
theorem d_Md_init_6 : decode b_Md_init 6 = .ok (.newarray .boolean, 2) := by decide +kernel
theorem d_Md_init_8 : decode b_Md_init 8 = .ok (.putfield 7, 3) := by decide +kernel
theorem d_Md_init_11 : decode b_Md_init 11 = .ok (.aload_n 0, 1) := by decide +kernel
theorem d_Md_init_12 : decode b_Md_init 12 = .ok (.bipush 20, 2) := by decide +kernel
theorem d_Md_init_14 : decode b_Md_init 14 = .ok (.newarray .int, 2) := by decide +kernel
theorem d_Md_init_16 : decode b_Md_init 16 = .ok (.putfield 13, 3) := by decide +kernel
theorem d_Md_init_19 : decode b_Md_init 19 = .ok (.aload_n 0, 1) := by decide +kernel
theorem d_Md_init_20 : decode b_Md_init 20 = .ok (.iconst 5, 1) := by decide +kernel
theorem d_Md_init_21 : decode b_Md_init 21 = .ok (.newarray .int, 2) := by decide +kernel
theorem d_Md_init_23 : decode b_Md_init 23 = .ok (.putfield 17, 3) := by decide +kernel
theorem d_Md_init_26 : decode b_Md_init 26 = .ok (.aload_n 0, 1) := by decide +kernel
theorem d_Md_init_27 : decode b_Md_init 27 = .ok (.sipush 150, 3) := by decide +kernel
theorem d_Md_init_30 : decode b_Md_init 30 = .ok (.newarray .int, 2) := by decide +kernel
theorem d_Md_init_32 : decode b_Md_init 32 = .ok (.putfield 20, 3) := by decide +kernel
theorem d_Md_init_35 : decode b_Md_init 35 = .ok (.aload_n 0, 1) := by decide +kernel
theorem d_Md_init_36 : decode b_Md_init 36 = .ok (.sipush 150, 3) := by decide +kernel
theorem d_Md_init_39 : decode b_Md_init 39 = .ok (.newarray .int, 2) := by decide +kernel
theorem d_Md_init_41 : decode b_Md_init 41 = .ok (.putfield 23, 3) := by decide +kernel
theorem d_Md_init_44 : decode b_Md_init 44 = .ok (.aload_n 0, 1) := by decide +kernel
theorem d_Md_init_45 : decode b_Md_init 45 = .ok (.sipush 150, 3) := by decide +kernel
theorem d_Md_init_48 : decode b_Md_init 48 = .ok (.newarray .int, 2) := by decide +kernel
theorem d_Md_init_50 : decode b_Md_init 50 = .ok (.putfield 26, 3) := by decide +kernel
theorem d_Md_init_53 : decode b_Md_init 53 = .ok (.aload_n 0, 1) := by decide +kernel
theorem d_Md_init_54 : decode b_Md_init 54 = .ok (.sipush 150, 3) := by decide +kernel
theorem d_Md_init_57 : decode b_Md_init 57 = .ok (.newarray .int, 2) := by decide +kernel
theorem d_Md_init_59 : decode b_Md_init 59 = .ok (.putfield 29, 3) := by decide +kernel
theorem d_Md_init_62 : decode b_Md_init 62 = .ok (.aload_n 0, 1) := by decide +kernel
theorem d_Md_init_63 : decode b_Md_init 63 = .ok (.sipush 150, 3) := by decide +kernel
theorem d_Md_init_66 : decode b_Md_init 66 = .ok (.newarray .int, 2) := by decide +kernel
theorem d_Md_init_68 : decode b_Md_init 68 = .ok (.putfield 32, 3) := by decide +kernel
theorem d_Md_init_71 : decode b_Md_init 71 = .ok (.aload_n 0, 1) := by decide +kernel
theorem d_Md_init_72 : decode b_Md_init 72 = .ok (.sipush 150, 3) := by decide +kernel
theorem d_Md_init_75 : decode b_Md_init 75 = .ok (.newarray .int, 2) := by decide +kernel
theorem d_Md_init_77 : decode b_Md_init 77 = .ok (.putfield 35, 3) := by decide +kernel
theorem d_Md_init_80 : decode b_Md_init 80 = .ok (.aload_n 0, 1) := by decide +kernel
theorem d_Md_init_81 : decode b_Md_init 81 = .ok (.sipush 150, 3) := by decide +kernel
theorem d_Md_init_84 : decode b_Md_init 84 = .ok (.newarray .int, 2) := by decide +kernel
theorem d_Md_init_86 : decode b_Md_init 86 = .ok (.putfield 38, 3) := by decide +kernel
theorem d_Md_init_89 : decode b_Md_init 89 = .ok (.aload_n 0, 1) := by decide +kernel
theorem d_Md_init_90 : decode b_Md_init 90 = .ok (.sipush 150, 3) := by decide +kernel
theorem d_Md_init_93 : decode b_Md_init 93 = .ok (.newarray .int, 2) := by decide +kernel
theorem d_Md_init_95 : decode b_Md_init 95 = .ok (.putfield 41, 3) := by decide +kernel
theorem d_Md_init_98 : decode b_Md_init 98 = .ok (.aload_n 0, 1) := by decide +kernel
theorem d_Md_init_99 : decode b_Md_init 99 = .ok (.sipush 150, 3) := by decide +kernel
theorem d_Md_init_102 : decode b_Md_init 102 = .ok (.newarray .int, 2) := by decide +kernel
theorem d_Md_init_104 : decode b_Md_init 104 = .ok (.putfield 44, 3) := by decide +kernel
theorem d_Md_init_107 : decode b_Md_init 107 = .ok (.aload_n 0, 1) := by decide +kernel
theorem d_Md_init_108 : decode b_Md_init 108 = .ok (.sipush 150, 3) := by decide +kernel
theorem d_Md_init_111 : decode b_Md_init 111 = .ok (.newarray .boolean, 2) := by decide +kernel
theorem d_Md_init_113 : decode b_Md_init 113 = .ok (.putfield 47, 3) := by decide +kernel
theorem d_Md_init_116 : decode b_Md_init 116 = .ok (.aload_n 0, 1) := by decide +kernel
theorem d_Md_init_117 : decode b_Md_init 117 = .ok (.sipush 150, 3) := by decide +kernel
theorem d_Md_init_120 : decode b_Md_init 120 = .ok (.newarray .int, 2) := by decide +kernel
theorem d_Md_init_122 : decode b_Md_init 122 = .ok (.putfield 50, 3) := by decide +kernel
theorem d_Md_init_125 : decode b_Md_init 125 = .ok (.aload_n 0, 1) := by decide +kernel
theorem d_Md_init_126 : decode b_Md_init 126 = .ok (.sipush 150, 3) := by decide +kernel
theorem d_Md_init_129 : decode b_Md_init 129 = .ok (.newarray .int, 2) := by decide +kernel
theorem d_Md_init_131 : decode b_Md_init 131 = .ok (.putfield 53, 3) := by decide +kernel
theorem d_Md_init_134 : decode b_Md_init 134 = .ok (.aload_n 0, 1) := by decide +kernel
theorem d_Md_init_135 : decode b_Md_init 135 = .ok (.sipush 150, 3) := by decide +kernel
theorem d_Md_init_138 : decode b_Md_init 138 = .ok (.newarray .int, 2) := by decide +kernel
theorem d_Md_init_140 : decode b_Md_init 140 = .ok (.putfield 56, 3) := by decide +kernel
theorem d_Md_init_143 : decode b_Md_init 143 = .ok (.aload_n 0, 1) := by decide +kernel
theorem d_Md_init_144 : decode b_Md_init 144 = .ok (.sipush 600, 3) := by decide +kernel
theorem d_Md_init_147 : decode b_Md_init 147 = .ok (.newarray .int, 2) := by decide +kernel
theorem d_Md_init_149 : decode b_Md_init 149 = .ok (.putfield 59, 3) := by decide +kernel
theorem d_Md_init_152 : decode b_Md_init 152 = .ok (.aload_n 0, 1) := by decide +kernel
theorem d_Md_init_153 : decode b_Md_init 153 = .ok (.sipush 600, 3) := by decide +kernel
theorem d_Md_init_156 : decode b_Md_init 156 = .ok (.newarray .int, 2) := by decide +kernel
theorem d_Md_init_158 : decode b_Md_init 158 = .ok (.putfield 62, 3) := by decide +kernel
theorem d_Md_init_161 : decode b_Md_init 161 = .ok (.aload_n 0, 1) := by decide +kernel
theorem d_Md_init_162 : decode b_Md_init 162 = .ok (.sipush 600, 3) := by decide +kernel
theorem d_Md_init_165 : decode b_Md_init 165 = .ok (.newarray .int, 2) := by decide +kernel
theorem d_Md_init_167 : decode b_Md_init 167 = .ok (.putfield 65, 3) := by decide +kernel
theorem d_Md_init_170 : decode b_Md_init 170 = .ok (.aload_n 0, 1) := by decide +kernel
theorem d_Md_init_171 : decode b_Md_init 171 = .ok (.sipush 600, 3) := by decide +kernel
theorem d_Md_init_174 : decode b_Md_init 174 = .ok (.newarray .int, 2) := by decide +kernel
theorem d_Md_init_176 : decode b_Md_init 176 = .ok (.putfield 68, 3) := by decide +kernel
theorem d_Md_init_179 : decode b_Md_init 179 = .ok (.aload_n 0, 1) := by decide +kernel
theorem d_Md_init_180 : decode b_Md_init 180 = .ok (.sipush 600, 3) := by decide +kernel
theorem d_Md_init_183 : decode b_Md_init 183 = .ok (.newarray .int, 2) := by decide +kernel
theorem d_Md_init_185 : decode b_Md_init 185 = .ok (.putfield 71, 3) := by decide +kernel
theorem d_Md_init_188 : decode b_Md_init 188 = .ok (.aload_n 0, 1) := by decide +kernel
theorem d_Md_init_189 : decode b_Md_init 189 = .ok (.sipush 600, 3) := by decide +kernel
theorem d_Md_init_192 : decode b_Md_init 192 = .ok (.newarray .int, 2) := by decide +kernel
theorem d_Md_init_194 : decode b_Md_init 194 = .ok (.putfield 74, 3) := by decide +kernel
theorem d_Md_init_197 : decode b_Md_init 197 = .ok (.aload_n 0, 1) := by decide +kernel
theorem d_Md_init_198 : decode b_Md_init 198 = .ok (.sipush 600, 3) := by decide +kernel
theorem d_Md_init_201 : decode b_Md_init 201 = .ok (.newarray .int, 2) := by decide +kernel
theorem d_Md_init_203 : decode b_Md_init 203 = .ok (.putfield 77, 3) := by decide +kernel
theorem d_Md_init_206 : decode b_Md_init 206 = .ok (.aload_n 0, 1) := by decide +kernel
theorem d_Md_init_207 : decode b_Md_init 207 = .ok (.sipush 451, 3) := by decide +kernel
theorem d_Md_init_210 : decode b_Md_init 210 = .ok (.newarray .int, 2) := by decide +kernel
theorem d_Md_init_212 : decode b_Md_init 212 = .ok (.putfield 80, 3) := by decide +kernel
theorem d_Md_init_215 : decode b_Md_init 215 = .ok (.aload_n 0, 1) := by decide +kernel
theorem d_Md_init_216 : decode b_Md_init 216 = .ok (.bipush 30, 2) := by decide +kernel
theorem d_Md_init_218 : decode b_Md_init 218 = .ok (.newarray .int, 2) := by decide +kernel
theorem d_Md_init_220 : decode b_Md_init 220 = .ok (.putfield 83, 3) := by decide +kernel
theorem d_Md_init_223 : decode b_Md_init 223 = .ok (.aload_n 0, 1) := by decide +kernel
theorem d_Md_init_224 : decode b_Md_init 224 = .ok (.iload_n 1, 1) := by decide +kernel
theorem d_Md_init_225 : decode b_Md_init 225 = .ok (.iconst 4, 1) := by decide +kernel
theorem d_Md_init_226 : decode b_Md_init 226 = .ok (.if_icmp .ge 7, 3) := by decide +kernel
theorem d_Md_init_229 : decode b_Md_init 229 = .ok (.iconst 3, 1) := by decide +kernel
theorem d_Md_init_230 : decode b_Md_init 230 = .ok (.goto 4, 3) := by decide +kernel
theorem d_Md_init_233 : decode b_Md_init 233 = .ok (.iconst 5, 1) := by decide +kernel
theorem d_Md_init_234 : decode b_Md_init 234 = .ok (.putfield 86, 3) := by decide +kernel
theorem d_Md_init_237 : decode b_Md_init 237 = .ok (.aload_n 0, 1) := by decide +kernel
theorem d_Md_init_238 : decode b_Md_init 238 = .ok (.aload_n 0, 1) := by decide +kernel
theorem d_Md_init_239 : decode b_Md_init 239 = .ok (.getfield 86, 3) := by decide +kernel
theorem d_Md_init_242 : decode b_Md_init 242 = .ok (.iconst 2, 1) := by decide +kernel
theorem d_Md_init_243 : decode b_Md_init 243 = .ok (.idiv, 1) := by decide +kernel
theorem d_Md_init_244 : decode b_Md_init 244 = .ok (.putfield 90, 3) := by decide +kernel
theorem d_Md_init_247 : decode b_Md_init 247 = .ok (.aload_n 0, 1) := by decide +kernel
theorem d_Md_init_248 : decode b_Md_init 248 = .ok (.bipush 6, 2) := by decide +kernel
theorem d_Md_init_250 : decode b_Md_init 250 = .ok (.aload_n 0, 1) := by decide +kernel
theorem d_Md_init_251 : decode b_Md_init 251 = .ok (.getfield 86, 3) := by decide +kernel
theorem d_Md_init_254 : decode b_Md_init 254 = .ok (.imul, 1) := by decide +kernel
theorem d_Md_init_255 : decode b_Md_init 255 = .ok (.putfield 93, 3) := by decide +kernel
theorem d_Md_init_258 : decode b_Md_init 258 = .ok (.return_, 1) := by decide +kernel
theorem d_Md_known_0 : decode b_Md_known 0 = .ok (.iload_n 1, 1) := by decide +kernel
theorem d_Md_known_1 : decode b_Md_known 1 = .ok (.ifCond .lt 27, 3) := by decide +kernel
theorem d_Md_known_4 : decode b_Md_known 4 = .ok (.iload_n 1, 1) := by decide +kernel
theorem d_Md_known_5 : decode b_Md_known 5 = .ok (.aload_n 0, 1) := by decide +kernel
theorem d_Md_known_6 : decode b_Md_known 6 = .ok (.getfield 86, 3) := by decide +kernel
theorem d_Md_known_9 : decode b_Md_known 9 = .ok (.if_icmp .ge 19, 3) := by decide +kernel
theorem d_Md_known_12 : decode b_Md_known 12 = .ok (.iload_n 2, 1) := by decide +kernel
theorem d_Md_known_13 : decode b_Md_known 13 = .ok (.ifCond .lt 15, 3) := by decide +kernel
theorem d_Md_known_16 : decode b_Md_known 16 = .ok (.iload_n 2, 1) := by decide +kernel
theorem d_Md_known_17 : decode b_Md_known 17 = .ok (.aload_n 0, 1) := by decide +kernel
theorem d_Md_known_18 : decode b_Md_known 18 = .ok (.getfield 93, 3) := by decide +kernel
theorem d_Md_known_21 : decode b_Md_known 21 = .ok (.if_icmp .ge 7, 3) := by decide +kernel
theorem d_Md_known_24 : decode b_Md_known 24 = .ok (.iconst 1, 1) := by decide +kernel
theorem d_Md_known_25 : decode b_Md_known 25 = .ok (.goto 4, 3) := by decide +kernel
theorem d_Md_known_28 : decode b_Md_known 28 = .ok (.iconst 0, 1) := by decide +kernel
theorem d_Md_known_29 : decode b_Md_known 29 = .ok (.ireturn, 1) := by decide +kernel
theorem d_Md_interfere_0 : decode b_Md_interfere 0 = .ok (.iload_n 0, 1) := by decide +kernel
theorem d_Md_interfere_1 : decode b_Md_interfere 1 = .ok (.bipush 8, 2) := by decide +kernel
theorem d_Md_interfere_3 : decode b_Md_interfere 3 = .ok (.if_icmp .eq 9, 3) := by decide +kernel
theorem d_Md_interfere_6 : decode b_Md_interfere 6 = .ok (.iload_n 1, 1) := by decide +kernel
theorem d_Md_interfere_7 : decode b_Md_interfere 7 = .ok (.bipush 8, 2) := by decide +kernel
theorem d_Md_interfere_9 : decode b_Md_interfere 9 = .ok (.if_icmp .ne 5, 3) := by decide +kernel
theorem d_Md_interfere_12 : decode b_Md_interfere 12 = .ok (.iconst 1, 1) := by decide +kernel
theorem d_Md_interfere_13 : decode b_Md_interfere 13 = .ok (.ireturn, 1) := by decide +kernel
theorem d_Md_interfere_14 : decode b_Md_interfere 14 = .ok (.iload_n 0, 1) := by decide +kernel
theorem d_Md_interfere_15 : decode b_Md_interfere 15 = .ok (.iconst 3, 1) := by decide +kernel
theorem d_Md_interfere_16 : decode b_Md_interfere 16 = .ok (.iand, 1) := by decide +kernel
theorem d_Md_interfere_17 : decode b_Md_interfere 17 = .ok (.iload_n 1, 1) := by decide +kernel
theorem d_Md_interfere_18 : decode b_Md_interfere 18 = .ok (.iconst 3, 1) := by decide +kernel
theorem d_Md_interfere_19 : decode b_Md_interfere 19 = .ok (.iand, 1) := by decide +kernel
theorem d_Md_interfere_20 : decode b_Md_interfere 20 = .ok (.if_icmp .ne 17, 3) := by decide +kernel
theorem d_Md_interfere_23 : decode b_Md_interfere 23 = .ok (.iload_n 0, 1) := by decide +kernel
theorem d_Md_interfere_24 : decode b_Md_interfere 24 = .ok (.iconst 4, 1) := by decide +kernel
theorem d_Md_interfere_25 : decode b_Md_interfere 25 = .ok (.if_icmp .ge 8, 3) := by decide +kernel
theorem d_Md_interfere_28 : decode b_Md_interfere 28 = .ok (.iload_n 1, 1) := by decide +kernel
theorem d_Md_interfere_29 : decode b_Md_interfere 29 = .ok (.iconst 4, 1) := by decide +kernel
theorem d_Md_interfere_30 : decode b_Md_interfere 30 = .ok (.if_icmp .lt 7, 3) := by decide +kernel
theorem d_Md_interfere_33 : decode b_Md_interfere 33 = .ok (.iconst 1, 1) := by decide +kernel
theorem d_Md_interfere_34 : decode b_Md_interfere 34 = .ok (.goto 4, 3) := by decide +kernel
theorem d_Md_interfere_37 : decode b_Md_interfere 37 = .ok (.iconst 0, 1) := by decide +kernel
theorem d_Md_interfere_38 : decode b_Md_interfere 38 = .ok (.ireturn, 1) := by decide +kernel
theorem d_Md_related_0 : decode b_Md_related 0 = .ok (.bipush 30, 2) := by decide +kernel
theorem d_Md_related_2 : decode b_Md_related 2 = .ok (.iload_n 1, 1) := by decide +kernel
theorem d_Md_related_3 : decode b_Md_related 3 = .ok (.imul, 1) := by decide +kernel
theorem d_Md_related_4 : decode b_Md_related 4 = .ok (.iload_n 3, 1) := by decide +kernel
theorem d_Md_related_5 : decode b_Md_related 5 = .ok (.iadd, 1) := by decide +kernel
theorem d_Md_related_6 : decode b_Md_related 6 = .ok (.istore 5, 2) := by decide +kernel
theorem d_Md_related_8 : decode b_Md_related 8 = .ok (.iload_n 3, 1) := by decide +kernel
theorem d_Md_related_9 : decode b_Md_related 9 = .ok (.iload_n 2, 1) := by decide +kernel
theorem d_Md_related_10 : decode b_Md_related 10 = .ok (.if_icmp .eq 32, 3) := by decide +kernel
theorem d_Md_related_13 : decode b_Md_related 13 = .ok (.aload_n 0, 1) := by decide +kernel
theorem d_Md_related_14 : decode b_Md_related 14 = .ok (.getfield 20, 3) := by decide +kernel
theorem d_Md_related_17 : decode b_Md_related 17 = .ok (.iload 5, 2) := by decide +kernel
theorem d_Md_related_19 : decode b_Md_related 19 = .ok (.iaload, 1) := by decide +kernel
theorem d_Md_related_20 : decode b_Md_related 20 = .ok (.ifCond .eq 22, 3) := by decide +kernel
theorem d_Md_related_23 : decode b_Md_related 23 = .ok (.aload_n 0, 1) := by decide +kernel
theorem d_Md_related_24 : decode b_Md_related 24 = .ok (.getfield 23, 3) := by decide +kernel
theorem d_Md_related_27 : decode b_Md_related 27 = .ok (.iload 5, 2) := by decide +kernel
theorem d_Md_related_29 : decode b_Md_related 29 = .ok (.iaload, 1) := by decide +kernel
theorem d_Md_related_30 : decode b_Md_related 30 = .ok (.iload 4, 2) := by decide +kernel
theorem d_Md_related_32 : decode b_Md_related 32 = .ok (.invokestatic 96, 3) := by decide +kernel
theorem d_Md_related_35 : decode b_Md_related 35 = .ok (.ifCond .eq 7, 3) := by decide +kernel
theorem d_Md_related_38 : decode b_Md_related 38 = .ok (.iconst 1, 1) := by decide +kernel
theorem d_Md_related_39 : decode b_Md_related 39 = .ok (.goto 4, 3) := by decide +kernel
theorem d_Md_related_42 : decode b_Md_related 42 = .ok (.iconst 0, 1) := by decide +kernel
theorem d_Md_related_43 : decode b_Md_related 43 = .ok (.ireturn, 1) := by decide +kernel
theorem d_Md_put_0 : decode b_Md_put 0 = .ok (.aload_n 0, 1) := by decide +kernel
theorem d_Md_put_1 : decode b_Md_put 1 = .ok (.getfield 20, 3) := by decide +kernel
theorem d_Md_put_4 : decode b_Md_put 4 = .ok (.iload_n 1, 1) := by decide +kernel
theorem d_Md_put_5 : decode b_Md_put 5 = .ok (.iload_n 2, 1) := by decide +kernel
theorem d_Md_put_6 : decode b_Md_put 6 = .ok (.iastore, 1) := by decide +kernel
theorem d_Md_put_7 : decode b_Md_put 7 = .ok (.aload_n 0, 1) := by decide +kernel
theorem d_Md_put_8 : decode b_Md_put 8 = .ok (.getfield 23, 3) := by decide +kernel
theorem d_Md_put_11 : decode b_Md_put 11 = .ok (.iload_n 1, 1) := by decide +kernel
theorem d_Md_put_12 : decode b_Md_put 12 = .ok (.iload_n 3, 1) := by decide +kernel
theorem d_Md_put_13 : decode b_Md_put 13 = .ok (.iastore, 1) := by decide +kernel
theorem d_Md_put_14 : decode b_Md_put 14 = .ok (.aload_n 0, 1) := by decide +kernel
theorem d_Md_put_15 : decode b_Md_put 15 = .ok (.getfield 26, 3) := by decide +kernel
theorem d_Md_put_18 : decode b_Md_put 18 = .ok (.iload_n 1, 1) := by decide +kernel
theorem d_Md_put_19 : decode b_Md_put 19 = .ok (.iload 4, 2) := by decide +kernel
theorem d_Md_put_21 : decode b_Md_put 21 = .ok (.iastore, 1) := by decide +kernel
theorem d_Md_put_22 : decode b_Md_put 22 = .ok (.return_, 1) := by decide +kernel
theorem d_Md_fit_0 : decode b_Md_fit 0 = .ok (.iload 5, 2) := by decide +kernel
theorem d_Md_fit_2 : decode b_Md_fit 2 = .ok (.istore 7, 2) := by decide +kernel
theorem d_Md_fit_4 : decode b_Md_fit 4 = .ok (.iload 6, 2) := by decide +kernel
theorem d_Md_fit_6 : decode b_Md_fit 6 = .ok (.istore 8, 2) := by decide +kernel
theorem d_Md_fit_8 : decode b_Md_fit 8 = .ok (.iconst 0, 1) := by decide +kernel
theorem d_Md_fit_9 : decode b_Md_fit 9 = .ok (.istore 9, 2) := by decide +kernel
theorem d_Md_fit_11 : decode b_Md_fit 11 = .ok (.iload 9, 2) := by decide +kernel
theorem d_Md_fit_13 : decode b_Md_fit 13 = .ok (.aload_n 0, 1) := by decide +kernel
theorem d_Md_fit_14 : decode b_Md_fit 14 = .ok (.getfield 93, 3) := by decide +kernel
theorem d_Md_fit_17 : decode b_Md_fit 17 = .ok (.if_icmp .ge 68, 3) := by decide +kernel
theorem d_Md_fit_20 : decode b_Md_fit 20 = .ok (.aload_n 0, 1) := by decide +kernel
theorem d_Md_fit_21 : decode b_Md_fit 21 = .ok (.iload_n 1, 1) := by decide +kernel
theorem d_Md_fit_22 : decode b_Md_fit 22 = .ok (.iload_n 2, 1) := by decide +kernel
theorem d_Md_fit_23 : decode b_Md_fit 23 = .ok (.iload 9, 2) := by decide +kernel
theorem d_Md_fit_25 : decode b_Md_fit 25 = .ok (.iload_n 3, 1) := by decide +kernel
theorem d_Md_fit_26 : decode b_Md_fit 26 = .ok (.invokevirtual 100, 3) := by decide +kernel
theorem d_Md_fit_29 : decode b_Md_fit 29 = .ok (.ifCond .eq 50, 3) := by decide +kernel
theorem d_Md_fit_32 : decode b_Md_fit 32 = .ok (.aload_n 0, 1) := by decide +kernel
theorem d_Md_fit_33 : decode b_Md_fit 33 = .ok (.getfield 29, 3) := by decide +kernel
theorem d_Md_fit_36 : decode b_Md_fit 36 = .ok (.bipush 30, 2) := by decide +kernel
theorem d_Md_fit_38 : decode b_Md_fit 38 = .ok (.iload_n 1, 1) := by decide +kernel
theorem d_Md_fit_39 : decode b_Md_fit 39 = .ok (.imul, 1) := by decide +kernel
theorem d_Md_fit_40 : decode b_Md_fit 40 = .ok (.iload 9, 2) := by decide +kernel
theorem d_Md_fit_42 : decode b_Md_fit 42 = .ok (.iadd, 1) := by decide +kernel
theorem d_Md_fit_43 : decode b_Md_fit 43 = .ok (.iaload, 1) := by decide +kernel
theorem d_Md_fit_44 : decode b_Md_fit 44 = .ok (.iload 7, 2) := by decide +kernel
theorem d_Md_fit_46 : decode b_Md_fit 46 = .ok (.if_icmp .lt 20, 3) := by decide +kernel
theorem d_Md_fit_49 : decode b_Md_fit 49 = .ok (.aload_n 0, 1) := by decide +kernel
theorem d_Md_fit_50 : decode b_Md_fit 50 = .ok (.getfield 29, 3) := by decide +kernel
theorem d_Md_fit_53 : decode b_Md_fit 53 = .ok (.bipush 30, 2) := by decide +kernel
theorem d_Md_fit_55 : decode b_Md_fit 55 = .ok (.iload_n 1, 1) := by decide +kernel
theorem d_Md_fit_56 : decode b_Md_fit 56 = .ok (.imul, 1) := by decide +kernel
theorem d_Md_fit_57 : decode b_Md_fit 57 = .ok (.iload 9, 2) := by decide +kernel
theorem d_Md_fit_59 : decode b_Md_fit 59 = .ok (.iadd, 1) := by decide +kernel
theorem d_Md_fit_60 : decode b_Md_fit 60 = .ok (.iaload, 1) := by decide +kernel
theorem d_Md_fit_61 : decode b_Md_fit 61 = .ok (.iconst 1, 1) := by decide +kernel
theorem d_Md_fit_62 : decode b_Md_fit 62 = .ok (.iadd, 1) := by decide +kernel
theorem d_Md_fit_63 : decode b_Md_fit 63 = .ok (.goto 5, 3) := by decide +kernel
theorem d_Md_fit_66 : decode b_Md_fit 66 = .ok (.iload 7, 2) := by decide +kernel
theorem d_Md_fit_68 : decode b_Md_fit 68 = .ok (.istore 7, 2) := by decide +kernel
theorem d_Md_fit_70 : decode b_Md_fit 70 = .ok (.iload 8, 2) := by decide +kernel
theorem d_Md_fit_72 : decode b_Md_fit 72 = .ok (.iconst 1, 1) := by decide +kernel
theorem d_Md_fit_73 : decode b_Md_fit 73 = .ok (.iload 9, 2) := by decide +kernel
theorem d_Md_fit_75 : decode b_Md_fit 75 = .ok (.ishl, 1) := by decide +kernel
theorem d_Md_fit_76 : decode b_Md_fit 76 = .ok (.ior, 1) := by decide +kernel
theorem d_Md_fit_77 : decode b_Md_fit 77 = .ok (.istore 8, 2) := by decide +kernel
theorem d_Md_fit_79 : decode b_Md_fit 79 = .ok (.iinc 9 1, 3) := by decide +kernel
theorem d_Md_fit_82 : decode b_Md_fit 82 = .ok (.goto (-71), 3) := by decide +kernel
theorem d_Md_fit_85 : decode b_Md_fit 85 = .ok (.aload_n 0, 1) := by decide +kernel
theorem d_Md_fit_86 : decode b_Md_fit 86 = .ok (.bipush 30, 2) := by decide +kernel
theorem d_Md_fit_88 : decode b_Md_fit 88 = .ok (.iload_n 1, 1) := by decide +kernel
theorem d_Md_fit_89 : decode b_Md_fit 89 = .ok (.imul, 1) := by decide +kernel
theorem d_Md_fit_90 : decode b_Md_fit 90 = .ok (.iload_n 2, 1) := by decide +kernel
theorem d_Md_fit_91 : decode b_Md_fit 91 = .ok (.iadd, 1) := by decide +kernel
theorem d_Md_fit_92 : decode b_Md_fit 92 = .ok (.iconst 1, 1) := by decide +kernel
theorem d_Md_fit_93 : decode b_Md_fit 93 = .ok (.iload_n 3, 1) := by decide +kernel
theorem d_Md_fit_94 : decode b_Md_fit 94 = .ok (.iload 4, 2) := by decide +kernel
theorem d_Md_fit_96 : decode b_Md_fit 96 = .ok (.invokevirtual 104, 3) := by decide +kernel
theorem d_Md_fit_99 : decode b_Md_fit 99 = .ok (.aload_n 0, 1) := by decide +kernel
theorem d_Md_fit_100 : decode b_Md_fit 100 = .ok (.getfield 29, 3) := by decide +kernel
theorem d_Md_fit_103 : decode b_Md_fit 103 = .ok (.bipush 30, 2) := by decide +kernel
theorem d_Md_fit_105 : decode b_Md_fit 105 = .ok (.iload_n 1, 1) := by decide +kernel
theorem d_Md_fit_106 : decode b_Md_fit 106 = .ok (.imul, 1) := by decide +kernel
theorem d_Md_fit_107 : decode b_Md_fit 107 = .ok (.iload_n 2, 1) := by decide +kernel
theorem d_Md_fit_108 : decode b_Md_fit 108 = .ok (.iadd, 1) := by decide +kernel
theorem d_Md_fit_109 : decode b_Md_fit 109 = .ok (.iload 7, 2) := by decide +kernel
theorem d_Md_fit_111 : decode b_Md_fit 111 = .ok (.iastore, 1) := by decide +kernel
theorem d_Md_fit_112 : decode b_Md_fit 112 = .ok (.aload_n 0, 1) := by decide +kernel
theorem d_Md_fit_113 : decode b_Md_fit 113 = .ok (.getfield 32, 3) := by decide +kernel
theorem d_Md_fit_116 : decode b_Md_fit 116 = .ok (.bipush 30, 2) := by decide +kernel
theorem d_Md_fit_118 : decode b_Md_fit 118 = .ok (.iload_n 1, 1) := by decide +kernel
theorem d_Md_fit_119 : decode b_Md_fit 119 = .ok (.imul, 1) := by decide +kernel
theorem d_Md_fit_120 : decode b_Md_fit 120 = .ok (.iload_n 2, 1) := by decide +kernel
theorem d_Md_fit_121 : decode b_Md_fit 121 = .ok (.iadd, 1) := by decide +kernel
theorem d_Md_fit_122 : decode b_Md_fit 122 = .ok (.iload 8, 2) := by decide +kernel
theorem d_Md_fit_124 : decode b_Md_fit 124 = .ok (.iastore, 1) := by decide +kernel
theorem d_Md_fit_125 : decode b_Md_fit 125 = .ok (.return_, 1) := by decide +kernel
theorem d_Md_send_0 : decode b_Md_send 0 = .ok (.aload_n 0, 1) := by decide +kernel
theorem d_Md_send_1 : decode b_Md_send 1 = .ok (.getfield 108, 3) := by decide +kernel
theorem d_Md_send_4 : decode b_Md_send 4 = .ok (.bipush 40, 2) := by decide +kernel
theorem d_Md_send_6 : decode b_Md_send 6 = .ok (.if_icmp .ne 14, 3) := by decide +kernel
theorem d_Md_send_9 : decode b_Md_send 9 = .ok (.aload_n 0, 1) := by decide +kernel
theorem d_Md_send_10 : decode b_Md_send 10 = .ok (.dup, 1) := by decide +kernel
theorem d_Md_send_11 : decode b_Md_send 11 = .ok (.getfield 111, 3) := by decide +kernel
theorem d_Md_send_14 : decode b_Md_send 14 = .ok (.iconst 1, 1) := by decide +kernel
theorem d_Md_send_15 : decode b_Md_send 15 = .ok (.iadd, 1) := by decide +kernel
theorem d_Md_send_16 : decode b_Md_send 16 = .ok (.putfield 111, 3) := by decide +kernel
theorem d_Md_send_19 : decode b_Md_send 19 = .ok (.return_, 1) := by decide +kernel
theorem d_Md_send_20 : decode b_Md_send 20 = .ok (.bipush 30, 2) := by decide +kernel
theorem d_Md_send_22 : decode b_Md_send 22 = .ok (.iload_n 2, 1) := by decide +kernel
theorem d_Md_send_23 : decode b_Md_send 23 = .ok (.imul, 1) := by decide +kernel
theorem d_Md_send_24 : decode b_Md_send 24 = .ok (.iload 4, 2) := by decide +kernel
theorem d_Md_send_26 : decode b_Md_send 26 = .ok (.iadd, 1) := by decide +kernel
theorem d_Md_send_27 : decode b_Md_send 27 = .ok (.istore 6, 2) := by decide +kernel
theorem d_Md_send_29 : decode b_Md_send 29 = .ok (.bipush 11, 2) := by decide +kernel
theorem d_Md_send_31 : decode b_Md_send 31 = .ok (.aload_n 0, 1) := by decide +kernel
theorem d_Md_send_32 : decode b_Md_send 32 = .ok (.getfield 108, 3) := by decide +kernel
theorem d_Md_send_35 : decode b_Md_send 35 = .ok (.imul, 1) := by decide +kernel
theorem d_Md_send_36 : decode b_Md_send 36 = .ok (.istore 7, 2) := by decide +kernel
theorem d_Md_send_38 : decode b_Md_send 38 = .ok (.aload_n 0, 1) := by decide +kernel
theorem d_Md_send_39 : decode b_Md_send 39 = .ok (.getfield 80, 3) := by decide +kernel
theorem d_Md_send_42 : decode b_Md_send 42 = .ok (.iload 7, 2) := by decide +kernel
theorem d_Md_send_44 : decode b_Md_send 44 = .ok (.iload_n 1, 1) := by decide +kernel
theorem d_Md_send_45 : decode b_Md_send 45 = .ok (.iastore, 1) := by decide +kernel
theorem d_Md_send_46 : decode b_Md_send 46 = .ok (.aload_n 0, 1) := by decide +kernel
theorem d_Md_send_47 : decode b_Md_send 47 = .ok (.getfield 80, 3) := by decide +kernel
theorem d_Md_send_50 : decode b_Md_send 50 = .ok (.iload 7, 2) := by decide +kernel
theorem d_Md_send_52 : decode b_Md_send 52 = .ok (.iconst 1, 1) := by decide +kernel
theorem d_Md_send_53 : decode b_Md_send 53 = .ok (.iadd, 1) := by decide +kernel
theorem d_Md_send_54 : decode b_Md_send 54 = .ok (.iload_n 2, 1) := by decide +kernel
theorem d_Md_send_55 : decode b_Md_send 55 = .ok (.iastore, 1) := by decide +kernel
theorem d_Md_send_56 : decode b_Md_send 56 = .ok (.aload_n 0, 1) := by decide +kernel
theorem d_Md_send_57 : decode b_Md_send 57 = .ok (.getfield 80, 3) := by decide +kernel
theorem d_Md_send_60 : decode b_Md_send 60 = .ok (.iload 7, 2) := by decide +kernel
theorem d_Md_send_62 : decode b_Md_send 62 = .ok (.iconst 2, 1) := by decide +kernel
theorem d_Md_send_63 : decode b_Md_send 63 = .ok (.iadd, 1) := by decide +kernel
theorem d_Md_send_64 : decode b_Md_send 64 = .ok (.iload_n 3, 1) := by decide +kernel
theorem d_Md_send_65 : decode b_Md_send 65 = .ok (.iastore, 1) := by decide +kernel
theorem d_Md_send_66 : decode b_Md_send 66 = .ok (.aload_n 0, 1) := by decide +kernel
theorem d_Md_send_67 : decode b_Md_send 67 = .ok (.getfield 80, 3) := by decide +kernel
theorem d_Md_send_70 : decode b_Md_send 70 = .ok (.iload 7, 2) := by decide +kernel
theorem d_Md_send_72 : decode b_Md_send 72 = .ok (.iconst 3, 1) := by decide +kernel
theorem d_Md_send_73 : decode b_Md_send 73 = .ok (.iadd, 1) := by decide +kernel
theorem d_Md_send_74 : decode b_Md_send 74 = .ok (.iload 4, 2) := by decide +kernel
theorem d_Md_send_76 : decode b_Md_send 76 = .ok (.iastore, 1) := by decide +kernel
theorem d_Md_send_77 : decode b_Md_send 77 = .ok (.aload_n 0, 1) := by decide +kernel
theorem d_Md_send_78 : decode b_Md_send 78 = .ok (.getfield 80, 3) := by decide +kernel
theorem d_Md_send_81 : decode b_Md_send 81 = .ok (.iload 7, 2) := by decide +kernel
theorem d_Md_send_83 : decode b_Md_send 83 = .ok (.iconst 4, 1) := by decide +kernel
theorem d_Md_send_84 : decode b_Md_send 84 = .ok (.iadd, 1) := by decide +kernel
theorem d_Md_send_85 : decode b_Md_send 85 = .ok (.iload 5, 2) := by decide +kernel
theorem d_Md_send_87 : decode b_Md_send 87 = .ok (.iastore, 1) := by decide +kernel
theorem d_Md_send_88 : decode b_Md_send 88 = .ok (.aload_n 0, 1) := by decide +kernel
theorem d_Md_send_89 : decode b_Md_send 89 = .ok (.getfield 80, 3) := by decide +kernel
theorem d_Md_send_92 : decode b_Md_send 92 = .ok (.iload 7, 2) := by decide +kernel
theorem d_Md_send_94 : decode b_Md_send 94 = .ok (.iconst 5, 1) := by decide +kernel
theorem d_Md_send_95 : decode b_Md_send 95 = .ok (.iadd, 1) := by decide +kernel
theorem d_Md_send_96 : decode b_Md_send 96 = .ok (.aload_n 0, 1) := by decide +kernel
theorem d_Md_send_97 : decode b_Md_send 97 = .ok (.getfield 23, 3) := by decide +kernel
theorem d_Md_send_100 : decode b_Md_send 100 = .ok (.iload 6, 2) := by decide +kernel
theorem d_Md_send_102 : decode b_Md_send 102 = .ok (.iaload, 1) := by decide +kernel
theorem d_Md_send_103 : decode b_Md_send 103 = .ok (.iastore, 1) := by decide +kernel
theorem d_Md_send_104 : decode b_Md_send 104 = .ok (.aload_n 0, 1) := by decide +kernel
theorem d_Md_send_105 : decode b_Md_send 105 = .ok (.getfield 80, 3) := by decide +kernel
theorem d_Md_send_108 : decode b_Md_send 108 = .ok (.iload 7, 2) := by decide +kernel
theorem d_Md_send_110 : decode b_Md_send 110 = .ok (.bipush 6, 2) := by decide +kernel
theorem d_Md_send_112 : decode b_Md_send 112 = .ok (.iadd, 1) := by decide +kernel
theorem d_Md_send_113 : decode b_Md_send 113 = .ok (.aload_n 0, 1) := by decide +kernel
theorem d_Md_send_114 : decode b_Md_send 114 = .ok (.getfield 26, 3) := by decide +kernel
theorem d_Md_send_117 : decode b_Md_send 117 = .ok (.iload 6, 2) := by decide +kernel
theorem d_Md_send_119 : decode b_Md_send 119 = .ok (.iaload, 1) := by decide +kernel
theorem d_Md_send_120 : decode b_Md_send 120 = .ok (.iastore, 1) := by decide +kernel
theorem d_Md_send_121 : decode b_Md_send 121 = .ok (.aload_n 0, 1) := by decide +kernel
theorem d_Md_send_122 : decode b_Md_send 122 = .ok (.getfield 80, 3) := by decide +kernel
theorem d_Md_send_125 : decode b_Md_send 125 = .ok (.iload 7, 2) := by decide +kernel
theorem d_Md_send_127 : decode b_Md_send 127 = .ok (.bipush 7, 2) := by decide +kernel
theorem d_Md_send_129 : decode b_Md_send 129 = .ok (.iadd, 1) := by decide +kernel
theorem d_Md_send_130 : decode b_Md_send 130 = .ok (.aload_n 0, 1) := by decide +kernel
theorem d_Md_send_131 : decode b_Md_send 131 = .ok (.getfield 29, 3) := by decide +kernel
theorem d_Md_send_134 : decode b_Md_send 134 = .ok (.iload 6, 2) := by decide +kernel
theorem d_Md_send_136 : decode b_Md_send 136 = .ok (.iaload, 1) := by decide +kernel
theorem d_Md_send_137 : decode b_Md_send 137 = .ok (.iastore, 1) := by decide +kernel
theorem d_Md_send_138 : decode b_Md_send 138 = .ok (.aload_n 0, 1) := by decide +kernel
theorem d_Md_send_139 : decode b_Md_send 139 = .ok (.getfield 80, 3) := by decide +kernel
theorem d_Md_send_142 : decode b_Md_send 142 = .ok (.iload 7, 2) := by decide +kernel
theorem d_Md_send_144 : decode b_Md_send 144 = .ok (.bipush 8, 2) := by decide +kernel
theorem d_Md_send_146 : decode b_Md_send 146 = .ok (.iadd, 1) := by decide +kernel
theorem d_Md_send_147 : decode b_Md_send 147 = .ok (.aload_n 0, 1) := by decide +kernel
theorem d_Md_send_148 : decode b_Md_send 148 = .ok (.getfield 32, 3) := by decide +kernel
theorem d_Md_send_151 : decode b_Md_send 151 = .ok (.iload 6, 2) := by decide +kernel
theorem d_Md_send_153 : decode b_Md_send 153 = .ok (.iaload, 1) := by decide +kernel
theorem d_Md_send_154 : decode b_Md_send 154 = .ok (.iastore, 1) := by decide +kernel
theorem d_Md_send_155 : decode b_Md_send 155 = .ok (.aload_n 0, 1) := by decide +kernel
theorem d_Md_send_156 : decode b_Md_send 156 = .ok (.getfield 80, 3) := by decide +kernel
theorem d_Md_send_159 : decode b_Md_send 159 = .ok (.iload 7, 2) := by decide +kernel
theorem d_Md_send_161 : decode b_Md_send 161 = .ok (.bipush 9, 2) := by decide +kernel
theorem d_Md_send_163 : decode b_Md_send 163 = .ok (.iadd, 1) := by decide +kernel
theorem d_Md_send_164 : decode b_Md_send 164 = .ok (.aload_n 0, 1) := by decide +kernel
theorem d_Md_send_165 : decode b_Md_send 165 = .ok (.getfield 20, 3) := by decide +kernel
theorem d_Md_send_168 : decode b_Md_send 168 = .ok (.iload 6, 2) := by decide +kernel
theorem d_Md_send_170 : decode b_Md_send 170 = .ok (.iaload, 1) := by decide +kernel
theorem d_Md_send_171 : decode b_Md_send 171 = .ok (.iastore, 1) := by decide +kernel
theorem d_Md_send_172 : decode b_Md_send 172 = .ok (.aload_n 0, 1) := by decide +kernel
theorem d_Md_send_173 : decode b_Md_send 173 = .ok (.getfield 80, 3) := by decide +kernel
theorem d_Md_send_176 : decode b_Md_send 176 = .ok (.iload 7, 2) := by decide +kernel
theorem d_Md_send_178 : decode b_Md_send 178 = .ok (.bipush 10, 2) := by decide +kernel
theorem d_Md_send_180 : decode b_Md_send 180 = .ok (.iadd, 1) := by decide +kernel
theorem d_Md_send_181 : decode b_Md_send 181 = .ok (.aload_n 0, 1) := by decide +kernel
theorem d_Md_send_182 : decode b_Md_send 182 = .ok (.getfield 38, 3) := by decide +kernel
theorem d_Md_send_185 : decode b_Md_send 185 = .ok (.iload 6, 2) := by decide +kernel
theorem d_Md_send_187 : decode b_Md_send 187 = .ok (.iaload, 1) := by decide +kernel
theorem d_Md_send_188 : decode b_Md_send 188 = .ok (.iastore, 1) := by decide +kernel
theorem d_Md_send_189 : decode b_Md_send 189 = .ok (.aload_n 0, 1) := by decide +kernel
theorem d_Md_send_190 : decode b_Md_send 190 = .ok (.dup, 1) := by decide +kernel
theorem d_Md_send_191 : decode b_Md_send 191 = .ok (.getfield 108, 3) := by decide +kernel
theorem d_Md_send_194 : decode b_Md_send 194 = .ok (.iconst 1, 1) := by decide +kernel
theorem d_Md_send_195 : decode b_Md_send 195 = .ok (.iadd, 1) := by decide +kernel
theorem d_Md_send_196 : decode b_Md_send 196 = .ok (.putfield 108, 3) := by decide +kernel
theorem d_Md_send_199 : decode b_Md_send 199 = .ok (.return_, 1) := by decide +kernel
theorem d_Md_sendAll_0 : decode b_Md_sendAll 0 = .ok (.iconst 0, 1) := by decide +kernel
theorem d_Md_sendAll_1 : decode b_Md_sendAll 1 = .ok (.istore 5, 2) := by decide +kernel
theorem d_Md_sendAll_3 : decode b_Md_sendAll 3 = .ok (.iload 5, 2) := by decide +kernel
theorem d_Md_sendAll_5 : decode b_Md_sendAll 5 = .ok (.aload_n 0, 1) := by decide +kernel
theorem d_Md_sendAll_6 : decode b_Md_sendAll 6 = .ok (.getfield 86, 3) := by decide +kernel
theorem d_Md_sendAll_9 : decode b_Md_sendAll 9 = .ok (.if_icmp .ge 26, 3) := by decide +kernel
theorem d_Md_sendAll_12 : decode b_Md_sendAll 12 = .ok (.iload 5, 2) := by decide +kernel
theorem d_Md_sendAll_14 : decode b_Md_sendAll 14 = .ok (.iload_n 2, 1) := by decide +kernel
theorem d_Md_sendAll_15 : decode b_Md_sendAll 15 = .ok (.if_icmp .eq 14, 3) := by decide +kernel
theorem d_Md_sendAll_18 : decode b_Md_sendAll 18 = .ok (.aload_n 0, 1) := by decide +kernel
theorem d_Md_sendAll_19 : decode b_Md_sendAll 19 = .ok (.iload_n 1, 1) := by decide +kernel
theorem d_Md_sendAll_20 : decode b_Md_sendAll 20 = .ok (.iload_n 2, 1) := by decide +kernel
theorem d_Md_sendAll_21 : decode b_Md_sendAll 21 = .ok (.iload 5, 2) := by decide +kernel
theorem d_Md_sendAll_23 : decode b_Md_sendAll 23 = .ok (.iload_n 3, 1) := by decide +kernel
theorem d_Md_sendAll_24 : decode b_Md_sendAll 24 = .ok (.iload 4, 2) := by decide +kernel
theorem d_Md_sendAll_26 : decode b_Md_sendAll 26 = .ok (.invokevirtual 114, 3) := by decide +kernel
theorem d_Md_sendAll_29 : decode b_Md_sendAll 29 = .ok (.iinc 5 1, 3) := by decide +kernel
theorem d_Md_sendAll_32 : decode b_Md_sendAll 32 = .ok (.goto (-29), 3) := by decide +kernel
theorem d_Md_sendAll_35 : decode b_Md_sendAll 35 = .ok (.return_, 1) := by decide +kernel
