theorem dX0_init_0 : decode cX0_init 0 = .ok (.aload_n 0, 1) := by decide +kernel
theorem dX0_init_1 : decode cX0_init 1 = .ok (.invokespecial 3, 3) := by decide +kernel
theorem dX0_init_4 : decode cX0_init 4 = .ok (.aload_n 0, 1) := by decide +kernel
theorem dX0_init_5 : decode cX0_init 5 = .ok (.bipush 10, 2) := by decide +kernel
theorem dX0_init_7 : decode cX0_init 7 = .ok (.newarray .int, 2) := by decide +kernel
theorem dX0_init_9 : decode cX0_init 9 = .ok (.putfield 9, 3) := by decide +kernel
theorem dX0_init_12 : decode cX0_init 12 = .ok (.aload_n 0, 1) := by decide +kernel
theorem dX0_init_13 : decode cX0_init 13 = .ok (.bipush 10, 2) := by decide +kernel
theorem dX0_init_15 : decode cX0_init 15 = .ok (.newarray .int, 2) := by decide +kernel
theorem dX0_init_17 : decode cX0_init 17 = .ok (.putfield 15, 3) := by decide +kernel
theorem dX0_init_20 : decode cX0_init 20 = .ok (.return_, 1) := by decide +kernel
theorem dX0_groupOf_0 : decode cX0_groupOf 0 = .ok (.aload_n 0, 1) := by decide +kernel
theorem dX0_groupOf_1 : decode cX0_groupOf 1 = .ok (.getfield 9, 3) := by decide +kernel
theorem dX0_groupOf_4 : decode cX0_groupOf 4 = .ok (.iload_n 1, 1) := by decide +kernel
theorem dX0_groupOf_5 : decode cX0_groupOf 5 = .ok (.iaload, 1) := by decide +kernel
theorem dX0_groupOf_6 : decode cX0_groupOf 6 = .ok (.ireturn, 1) := by decide +kernel
theorem dX0_targetOf_0 : decode cX0_targetOf 0 = .ok (.iload_n 1, 1) := by decide +kernel
theorem dX0_targetOf_1 : decode cX0_targetOf 1 = .ok (.iconst (-1), 1) := by decide +kernel
theorem dX0_targetOf_2 : decode cX0_targetOf 2 = .ok (.if_icmp .ne 7, 3) := by decide +kernel
theorem dX0_targetOf_5 : decode cX0_targetOf 5 = .ok (.iconst (-1), 1) := by decide +kernel
theorem dX0_targetOf_6 : decode cX0_targetOf 6 = .ok (.goto 9, 3) := by decide +kernel
theorem dX0_targetOf_9 : decode cX0_targetOf 9 = .ok (.aload_n 0, 1) := by decide +kernel
theorem dX0_targetOf_10 : decode cX0_targetOf 10 = .ok (.getfield 15, 3) := by decide +kernel
theorem dX0_targetOf_13 : decode cX0_targetOf 13 = .ok (.iload_n 1, 1) := by decide +kernel
theorem dX0_targetOf_14 : decode cX0_targetOf 14 = .ok (.iaload, 1) := by decide +kernel
theorem dX0_targetOf_15 : decode cX0_targetOf 15 = .ok (.ireturn, 1) := by decide +kernel
theorem dX0_setOf_0 : decode cX0_setOf 0 = .ok (.aload_n 0, 1) := by decide +kernel
theorem dX0_setOf_1 : decode cX0_setOf 1 = .ok (.aload_n 0, 1) := by decide +kernel
theorem dX0_setOf_2 : decode cX0_setOf 2 = .ok (.getfield 15, 3) := by decide +kernel
theorem dX0_setOf_5 : decode cX0_setOf 5 = .ok (.aload_n 0, 1) := by decide +kernel
theorem dX0_setOf_6 : decode cX0_setOf 6 = .ok (.getfield 9, 3) := by decide +kernel
theorem dX0_setOf_9 : decode cX0_setOf 9 = .ok (.iload_n 1, 1) := by decide +kernel
theorem dX0_setOf_10 : decode cX0_setOf 10 = .ok (.iaload, 1) := by decide +kernel
theorem dX0_setOf_11 : decode cX0_setOf 11 = .ok (.iaload, 1) := by decide +kernel
theorem dX0_setOf_12 : decode cX0_setOf 12 = .ok (.invokevirtual 18, 3) := by decide +kernel
theorem dX0_setOf_15 : decode cX0_setOf 15 = .ok (.ireturn, 1) := by decide +kernel
theorem dX0_membersOf_0 : decode cX0_membersOf 0 = .ok (.iconst 0, 1) := by decide +kernel
theorem dX0_membersOf_1 : decode cX0_membersOf 1 = .ok (.istore_n 2, 1) := by decide +kernel
theorem dX0_membersOf_2 : decode cX0_membersOf 2 = .ok (.iconst 0, 1) := by decide +kernel
theorem dX0_membersOf_3 : decode cX0_membersOf 3 = .ok (.istore_n 3, 1) := by decide +kernel
theorem dX0_membersOf_4 : decode cX0_membersOf 4 = .ok (.iload_n 3, 1) := by decide +kernel
theorem dX0_membersOf_5 : decode cX0_membersOf 5 = .ok (.bipush 10, 2) := by decide +kernel
theorem dX0_membersOf_7 : decode cX0_membersOf 7 = .ok (.if_icmp .ge 26, 3) := by decide +kernel
theorem dX0_membersOf_10 : decode cX0_membersOf 10 = .ok (.aload_n 0, 1) := by decide +kernel
theorem dX0_membersOf_11 : decode cX0_membersOf 11 = .ok (.getfield 9, 3) := by decide +kernel
theorem dX0_membersOf_14 : decode cX0_membersOf 14 = .ok (.iload_n 3, 1) := by decide +kernel
theorem dX0_membersOf_15 : decode cX0_membersOf 15 = .ok (.iaload, 1) := by decide +kernel
theorem dX0_membersOf_16 : decode cX0_membersOf 16 = .ok (.iload_n 1, 1) := by decide +kernel
theorem dX0_membersOf_17 : decode cX0_membersOf 17 = .ok (.if_icmp .ne 10, 3) := by decide +kernel
theorem dX0_membersOf_20 : decode cX0_membersOf 20 = .ok (.iload_n 2, 1) := by decide +kernel
theorem dX0_membersOf_21 : decode cX0_membersOf 21 = .ok (.iload_n 3, 1) := by decide +kernel
theorem dX0_membersOf_22 : decode cX0_membersOf 22 = .ok (.invokestatic 22, 3) := by decide +kernel
theorem dX0_membersOf_25 : decode cX0_membersOf 25 = .ok (.ior, 1) := by decide +kernel
theorem dX0_membersOf_26 : decode cX0_membersOf 26 = .ok (.istore_n 2, 1) := by decide +kernel
theorem dX0_membersOf_27 : decode cX0_membersOf 27 = .ok (.iinc 3 1, 3) := by decide +kernel
theorem dX0_membersOf_30 : decode cX0_membersOf 30 = .ok (.goto (-26), 3) := by decide +kernel
theorem dX0_membersOf_33 : decode cX0_membersOf 33 = .ok (.iload_n 2, 1) := by decide +kernel
theorem dX0_membersOf_34 : decode cX0_membersOf 34 = .ok (.ireturn, 1) := by decide +kernel
theorem dX0_groupCount_0 : decode cX0_groupCount 0 = .ok (.iconst 0, 1) := by decide +kernel
theorem dX0_groupCount_1 : decode cX0_groupCount 1 = .ok (.istore_n 1, 1) := by decide +kernel
theorem dX0_groupCount_2 : decode cX0_groupCount 2 = .ok (.iconst 0, 1) := by decide +kernel
theorem dX0_groupCount_3 : decode cX0_groupCount 3 = .ok (.istore_n 2, 1) := by decide +kernel
theorem dX0_groupCount_4 : decode cX0_groupCount 4 = .ok (.iload_n 2, 1) := by decide +kernel
theorem dX0_groupCount_5 : decode cX0_groupCount 5 = .ok (.bipush 10, 2) := by decide +kernel
theorem dX0_groupCount_7 : decode cX0_groupCount 7 = .ok (.if_icmp .ge 30, 3) := by decide +kernel
theorem dX0_groupCount_10 : decode cX0_groupCount 10 = .ok (.iload_n 1, 1) := by decide +kernel
theorem dX0_groupCount_11 : decode cX0_groupCount 11 = .ok (.aload_n 0, 1) := by decide +kernel
theorem dX0_groupCount_12 : decode cX0_groupCount 12 = .ok (.getfield 9, 3) := by decide +kernel
theorem dX0_groupCount_15 : decode cX0_groupCount 15 = .ok (.iload_n 2, 1) := by decide +kernel
theorem dX0_groupCount_16 : decode cX0_groupCount 16 = .ok (.iaload, 1) := by decide +kernel
theorem dX0_groupCount_17 : decode cX0_groupCount 17 = .ok (.iload_n 2, 1) := by decide +kernel
theorem dX0_groupCount_18 : decode cX0_groupCount 18 = .ok (.if_icmp .ne 7, 3) := by decide +kernel
theorem dX0_groupCount_21 : decode cX0_groupCount 21 = .ok (.iconst 1, 1) := by decide +kernel
theorem dX0_groupCount_22 : decode cX0_groupCount 22 = .ok (.goto 4, 3) := by decide +kernel
theorem dX0_groupCount_25 : decode cX0_groupCount 25 = .ok (.iconst 0, 1) := by decide +kernel
theorem dX0_groupCount_26 : decode cX0_groupCount 26 = .ok (.invokestatic 25, 3) := by decide +kernel
theorem dX0_groupCount_29 : decode cX0_groupCount 29 = .ok (.iadd, 1) := by decide +kernel
theorem dX0_groupCount_30 : decode cX0_groupCount 30 = .ok (.istore_n 1, 1) := by decide +kernel
theorem dX0_groupCount_31 : decode cX0_groupCount 31 = .ok (.iinc 2 1, 3) := by decide +kernel
theorem dX0_groupCount_34 : decode cX0_groupCount 34 = .ok (.goto (-30), 3) := by decide +kernel
theorem dX0_groupCount_37 : decode cX0_groupCount 37 = .ok (.iload_n 1, 1) := by decide +kernel
theorem dX0_groupCount_38 : decode cX0_groupCount 38 = .ok (.ireturn, 1) := by decide +kernel
theorem dX0_pointingCount_0 : decode cX0_pointingCount 0 = .ok (.iconst 0, 1) := by decide +kernel
theorem dX0_pointingCount_1 : decode cX0_pointingCount 1 = .ok (.istore_n 1, 1) := by decide +kernel
theorem dX0_pointingCount_2 : decode cX0_pointingCount 2 = .ok (.iconst 0, 1) := by decide +kernel
theorem dX0_pointingCount_3 : decode cX0_pointingCount 3 = .ok (.istore_n 2, 1) := by decide +kernel
theorem dX0_pointingCount_4 : decode cX0_pointingCount 4 = .ok (.iload_n 2, 1) := by decide +kernel
theorem dX0_pointingCount_5 : decode cX0_pointingCount 5 = .ok (.bipush 10, 2) := by decide +kernel
theorem dX0_pointingCount_7 : decode cX0_pointingCount 7 = .ok (.if_icmp .ge 30, 3) := by decide +kernel
theorem dX0_pointingCount_10 : decode cX0_pointingCount 10 = .ok (.iload_n 1, 1) := by decide +kernel
theorem dX0_pointingCount_11 : decode cX0_pointingCount 11 = .ok (.aload_n 0, 1) := by decide +kernel
theorem dX0_pointingCount_12 : decode cX0_pointingCount 12 = .ok (.getfield 15, 3) := by decide +kernel
theorem dX0_pointingCount_15 : decode cX0_pointingCount 15 = .ok (.iload_n 2, 1) := by decide +kernel
theorem dX0_pointingCount_16 : decode cX0_pointingCount 16 = .ok (.iaload, 1) := by decide +kernel
theorem dX0_pointingCount_17 : decode cX0_pointingCount 17 = .ok (.iconst (-1), 1) := by decide +kernel
theorem dX0_pointingCount_18 : decode cX0_pointingCount 18 = .ok (.if_icmp .eq 7, 3) := by decide +kernel
theorem dX0_pointingCount_21 : decode cX0_pointingCount 21 = .ok (.iconst 1, 1) := by decide +kernel
theorem dX0_pointingCount_22 : decode cX0_pointingCount 22 = .ok (.goto 4, 3) := by decide +kernel
theorem dX0_pointingCount_25 : decode cX0_pointingCount 25 = .ok (.iconst 0, 1) := by decide +kernel
theorem dX0_pointingCount_26 : decode cX0_pointingCount 26 = .ok (.invokestatic 25, 3) := by decide +kernel
theorem dX0_pointingCount_29 : decode cX0_pointingCount 29 = .ok (.iadd, 1) := by decide +kernel
theorem dX0_pointingCount_30 : decode cX0_pointingCount 30 = .ok (.istore_n 1, 1) := by decide +kernel
theorem dX0_pointingCount_31 : decode cX0_pointingCount 31 = .ok (.iinc 2 1, 3) := by decide +kernel
theorem dX0_pointingCount_34 : decode cX0_pointingCount 34 = .ok (.goto (-30), 3) := by decide +kernel
theorem dX0_pointingCount_37 : decode cX0_pointingCount 37 = .ok (.iload_n 1, 1) := by decide +kernel
theorem dX0_pointingCount_38 : decode cX0_pointingCount 38 = .ok (.ireturn, 1) := by decide +kernel
theorem dX0_selfPointingCount_0 : decode cX0_selfPointingCount 0 = .ok (.iconst 0, 1) := by decide +kernel
theorem dX0_selfPointingCount_1 : decode cX0_selfPointingCount 1 = .ok (.istore_n 1, 1) := by decide +kernel
theorem dX0_selfPointingCount_2 : decode cX0_selfPointingCount 2 = .ok (.iconst 0, 1) := by decide +kernel
theorem dX0_selfPointingCount_3 : decode cX0_selfPointingCount 3 = .ok (.istore_n 2, 1) := by decide +kernel
theorem dX0_selfPointingCount_4 : decode cX0_selfPointingCount 4 = .ok (.iload_n 2, 1) := by decide +kernel
theorem dX0_selfPointingCount_5 : decode cX0_selfPointingCount 5 = .ok (.bipush 10, 2) := by decide +kernel
theorem dX0_selfPointingCount_7 : decode cX0_selfPointingCount 7 = .ok (.if_icmp .ge 30, 3) := by decide +kernel
theorem dX0_selfPointingCount_10 : decode cX0_selfPointingCount 10 = .ok (.iload_n 1, 1) := by decide +kernel
theorem dX0_selfPointingCount_11 : decode cX0_selfPointingCount 11 = .ok (.aload_n 0, 1) := by decide +kernel
theorem dX0_selfPointingCount_12 : decode cX0_selfPointingCount 12 = .ok (.getfield 15, 3) := by decide +kernel
theorem dX0_selfPointingCount_15 : decode cX0_selfPointingCount 15 = .ok (.iload_n 2, 1) := by decide +kernel
theorem dX0_selfPointingCount_16 : decode cX0_selfPointingCount 16 = .ok (.iaload, 1) := by decide +kernel
theorem dX0_selfPointingCount_17 : decode cX0_selfPointingCount 17 = .ok (.iload_n 2, 1) := by decide +kernel
theorem dX0_selfPointingCount_18 : decode cX0_selfPointingCount 18 = .ok (.if_icmp .ne 7, 3) := by decide +kernel
theorem dX0_selfPointingCount_21 : decode cX0_selfPointingCount 21 = .ok (.iconst 1, 1) := by decide +kernel
theorem dX0_selfPointingCount_22 : decode cX0_selfPointingCount 22 = .ok (.goto 4, 3) := by decide +kernel
theorem dX0_selfPointingCount_25 : decode cX0_selfPointingCount 25 = .ok (.iconst 0, 1) := by decide +kernel
theorem dX0_selfPointingCount_26 : decode cX0_selfPointingCount 26 = .ok (.invokestatic 25, 3) := by decide +kernel
theorem dX0_selfPointingCount_29 : decode cX0_selfPointingCount 29 = .ok (.iadd, 1) := by decide +kernel
theorem dX0_selfPointingCount_30 : decode cX0_selfPointingCount 30 = .ok (.istore_n 1, 1) := by decide +kernel
theorem dX0_selfPointingCount_31 : decode cX0_selfPointingCount 31 = .ok (.iinc 2 1, 3) := by decide +kernel
theorem dX0_selfPointingCount_34 : decode cX0_selfPointingCount 34 = .ok (.goto (-30), 3) := by decide +kernel
theorem dX0_selfPointingCount_37 : decode cX0_selfPointingCount 37 = .ok (.iload_n 1, 1) := by decide +kernel
theorem dX0_selfPointingCount_38 : decode cX0_selfPointingCount 38 = .ok (.ireturn, 1) := by decide +kernel
theorem dX0_total_0 : decode cX0_total 0 = .ok (.iconst 0, 1) := by decide +kernel
theorem dX0_total_1 : decode cX0_total 1 = .ok (.istore_n 1, 1) := by decide +kernel
theorem dX0_total_2 : decode cX0_total 2 = .ok (.iconst 0, 1) := by decide +kernel
theorem dX0_total_3 : decode cX0_total 3 = .ok (.istore_n 2, 1) := by decide +kernel
theorem dX0_total_4 : decode cX0_total 4 = .ok (.iload_n 2, 1) := by decide +kernel
theorem dX0_total_5 : decode cX0_total 5 = .ok (.bipush 10, 2) := by decide +kernel
theorem dX0_total_7 : decode cX0_total 7 = .ok (.if_icmp .ge 20, 3) := by decide +kernel
theorem dX0_total_10 : decode cX0_total 10 = .ok (.iload_n 1, 1) := by decide +kernel
theorem dX0_total_11 : decode cX0_total 11 = .ok (.aload_n 0, 1) := by decide +kernel
theorem dX0_total_12 : decode cX0_total 12 = .ok (.iload_n 2, 1) := by decide +kernel
theorem dX0_total_13 : decode cX0_total 13 = .ok (.invokevirtual 29, 3) := by decide +kernel
theorem dX0_total_16 : decode cX0_total 16 = .ok (.invokestatic 32, 3) := by decide +kernel
theorem dX0_total_19 : decode cX0_total 19 = .ok (.iadd, 1) := by decide +kernel
theorem dX0_total_20 : decode cX0_total 20 = .ok (.istore_n 1, 1) := by decide +kernel
theorem dX0_total_21 : decode cX0_total 21 = .ok (.iinc 2 1, 3) := by decide +kernel
theorem dX0_total_24 : decode cX0_total 24 = .ok (.goto (-20), 3) := by decide +kernel
theorem dX0_total_27 : decode cX0_total 27 = .ok (.iload_n 1, 1) := by decide +kernel
theorem dX0_total_28 : decode cX0_total 28 = .ok (.ireturn, 1) := by decide +kernel
theorem dX0_solve_0 : decode cX0_solve 0 = .ok (.iconst 0, 1) := by decide +kernel
theorem dX0_solve_1 : decode cX0_solve 1 = .ok (.istore_n 3, 1) := by decide +kernel
theorem dX0_solve_2 : decode cX0_solve 2 = .ok (.iload_n 3, 1) := by decide +kernel
theorem dX0_solve_3 : decode cX0_solve 3 = .ok (.bipush 10, 2) := by decide +kernel
theorem dX0_solve_5 : decode cX0_solve 5 = .ok (.if_icmp .ge 23, 3) := by decide +kernel
theorem dX0_solve_8 : decode cX0_solve 8 = .ok (.aload_n 0, 1) := by decide +kernel
theorem dX0_solve_9 : decode cX0_solve 9 = .ok (.getfield 9, 3) := by decide +kernel
theorem dX0_solve_12 : decode cX0_solve 12 = .ok (.iload_n 3, 1) := by decide +kernel
theorem dX0_solve_13 : decode cX0_solve 13 = .ok (.iload_n 3, 1) := by decide +kernel
theorem dX0_solve_14 : decode cX0_solve 14 = .ok (.iastore, 1) := by decide +kernel
theorem dX0_solve_15 : decode cX0_solve 15 = .ok (.aload_n 0, 1) := by decide +kernel
theorem dX0_solve_16 : decode cX0_solve 16 = .ok (.getfield 15, 3) := by decide +kernel
theorem dX0_solve_19 : decode cX0_solve 19 = .ok (.iload_n 3, 1) := by decide +kernel
theorem dX0_solve_20 : decode cX0_solve 20 = .ok (.iconst (-1), 1) := by decide +kernel
theorem dX0_solve_21 : decode cX0_solve 21 = .ok (.iastore, 1) := by decide +kernel
theorem dX0_solve_22 : decode cX0_solve 22 = .ok (.iinc 3 1, 3) := by decide +kernel
theorem dX0_solve_25 : decode cX0_solve 25 = .ok (.goto (-23), 3) := by decide +kernel
theorem dX0_solve_28 : decode cX0_solve 28 = .ok (.iconst 1, 1) := by decide +kernel
theorem dX0_solve_29 : decode cX0_solve 29 = .ok (.istore_n 3, 1) := by decide +kernel
theorem dX0_solve_30 : decode cX0_solve 30 = .ok (.iconst 0, 1) := by decide +kernel
theorem dX0_solve_31 : decode cX0_solve 31 = .ok (.istore 4, 2) := by decide +kernel
theorem dX0_solve_33 : decode cX0_solve 33 = .ok (.iload 4, 2) := by decide +kernel
theorem dX0_solve_35 : decode cX0_solve 35 = .ok (.bipush 20, 2) := by decide +kernel
theorem dX0_solve_37 : decode cX0_solve 37 = .ok (.if_icmp .gt 51, 3) := by decide +kernel
theorem dX0_solve_40 : decode cX0_solve 40 = .ok (.iload_n 3, 1) := by decide +kernel
theorem dX0_solve_41 : decode cX0_solve 41 = .ok (.ifCond .eq 47, 3) := by decide +kernel
theorem dX0_solve_44 : decode cX0_solve 44 = .ok (.iconst 0, 1) := by decide +kernel
theorem dX0_solve_45 : decode cX0_solve 45 = .ok (.istore_n 3, 1) := by decide +kernel
theorem dX0_solve_46 : decode cX0_solve 46 = .ok (.iconst 0, 1) := by decide +kernel
theorem dX0_solve_47 : decode cX0_solve 47 = .ok (.istore 5, 2) := by decide +kernel
theorem dX0_solve_49 : decode cX0_solve 49 = .ok (.iload 5, 2) := by decide +kernel
theorem dX0_solve_51 : decode cX0_solve 51 = .ok (.aload_n 1, 1) := by decide +kernel
theorem dX0_solve_52 : decode cX0_solve 52 = .ok (.invokevirtual 37, 3) := by decide +kernel
theorem dX0_solve_55 : decode cX0_solve 55 = .ok (.if_icmp .ge 27, 3) := by decide +kernel
theorem dX0_solve_58 : decode cX0_solve 58 = .ok (.iload 5, 2) := by decide +kernel
theorem dX0_solve_60 : decode cX0_solve 60 = .ok (.iload_n 2, 1) := by decide +kernel
theorem dX0_solve_61 : decode cX0_solve 61 = .ok (.if_icmp .eq 15, 3) := by decide +kernel
theorem dX0_solve_64 : decode cX0_solve 64 = .ok (.aload_n 0, 1) := by decide +kernel
theorem dX0_solve_65 : decode cX0_solve 65 = .ok (.aload_n 1, 1) := by decide +kernel
theorem dX0_solve_66 : decode cX0_solve 66 = .ok (.iload 5, 2) := by decide +kernel
theorem dX0_solve_68 : decode cX0_solve 68 = .ok (.invokevirtual 43, 3) := by decide +kernel
theorem dX0_solve_71 : decode cX0_solve 71 = .ok (.ifCond .eq 5, 3) := by decide +kernel
theorem dX0_solve_74 : decode cX0_solve 74 = .ok (.iconst 1, 1) := by decide +kernel
theorem dX0_solve_75 : decode cX0_solve 75 = .ok (.istore_n 3, 1) := by decide +kernel
theorem dX0_solve_76 : decode cX0_solve 76 = .ok (.iinc 5 1, 3) := by decide +kernel
theorem dX0_solve_79 : decode cX0_solve 79 = .ok (.goto (-30), 3) := by decide +kernel
theorem dX0_solve_82 : decode cX0_solve 82 = .ok (.iinc 4 1, 3) := by decide +kernel
theorem dX0_solve_85 : decode cX0_solve 85 = .ok (.goto (-52), 3) := by decide +kernel
theorem dX0_solve_88 : decode cX0_solve 88 = .ok (.return_, 1) := by decide +kernel
theorem dX0_apply_0 : decode cX0_apply 0 = .ok (.aload_n 0, 1) := by decide +kernel
theorem dX0_apply_1 : decode cX0_apply 1 = .ok (.getfield 9, 3) := by decide +kernel
theorem dX0_apply_4 : decode cX0_apply 4 = .ok (.aload_n 1, 1) := by decide +kernel
theorem dX0_apply_5 : decode cX0_apply 5 = .ok (.iload_n 2, 1) := by decide +kernel
theorem dX0_apply_6 : decode cX0_apply 6 = .ok (.invokevirtual 47, 3) := by decide +kernel
theorem dX0_apply_9 : decode cX0_apply 9 = .ok (.iaload, 1) := by decide +kernel
theorem dX0_apply_10 : decode cX0_apply 10 = .ok (.istore_n 3, 1) := by decide +kernel
theorem dX0_apply_11 : decode cX0_apply 11 = .ok (.aload_n 0, 1) := by decide +kernel
theorem dX0_apply_12 : decode cX0_apply 12 = .ok (.getfield 9, 3) := by decide +kernel
theorem dX0_apply_15 : decode cX0_apply 15 = .ok (.aload_n 1, 1) := by decide +kernel
theorem dX0_apply_16 : decode cX0_apply 16 = .ok (.iload_n 2, 1) := by decide +kernel
theorem dX0_apply_17 : decode cX0_apply 17 = .ok (.invokevirtual 50, 3) := by decide +kernel
theorem dX0_apply_20 : decode cX0_apply 20 = .ok (.iaload, 1) := by decide +kernel
theorem dX0_apply_21 : decode cX0_apply 21 = .ok (.istore 4, 2) := by decide +kernel
theorem dX0_apply_23 : decode cX0_apply 23 = .ok (.aload_n 1, 1) := by decide +kernel
theorem dX0_apply_24 : decode cX0_apply 24 = .ok (.iload_n 2, 1) := by decide +kernel
theorem dX0_apply_25 : decode cX0_apply 25 = .ok (.invokevirtual 53, 3) := by decide +kernel
theorem dX0_apply_28 : decode cX0_apply 28 = .ok (.tableswitch 66 0 2 #[28, 36, 49], 28) := by decide +kernel
theorem dX0_apply_56 : decode cX0_apply 56 = .ok (.aload_n 0, 1) := by decide +kernel
theorem dX0_apply_57 : decode cX0_apply 57 = .ok (.iload_n 3, 1) := by decide +kernel
theorem dX0_apply_58 : decode cX0_apply 58 = .ok (.iload 4, 2) := by decide +kernel
theorem dX0_apply_60 : decode cX0_apply 60 = .ok (.invokevirtual 56, 3) := by decide +kernel
theorem dX0_apply_63 : decode cX0_apply 63 = .ok (.ireturn, 1) := by decide +kernel
theorem dX0_apply_64 : decode cX0_apply 64 = .ok (.aload_n 0, 1) := by decide +kernel
theorem dX0_apply_65 : decode cX0_apply 65 = .ok (.iload_n 3, 1) := by decide +kernel
theorem dX0_apply_66 : decode cX0_apply 66 = .ok (.aload_n 0, 1) := by decide +kernel
theorem dX0_apply_67 : decode cX0_apply 67 = .ok (.getfield 15, 3) := by decide +kernel
theorem dX0_apply_70 : decode cX0_apply 70 = .ok (.iload 4, 2) := by decide +kernel
theorem dX0_apply_72 : decode cX0_apply 72 = .ok (.iaload, 1) := by decide +kernel
theorem dX0_apply_73 : decode cX0_apply 73 = .ok (.invokevirtual 56, 3) := by decide +kernel
theorem dX0_apply_76 : decode cX0_apply 76 = .ok (.ireturn, 1) := by decide +kernel
theorem dX0_apply_77 : decode cX0_apply 77 = .ok (.aload_n 0, 1) := by decide +kernel
theorem dX0_apply_78 : decode cX0_apply 78 = .ok (.iload_n 3, 1) := by decide +kernel
theorem dX0_apply_79 : decode cX0_apply 79 = .ok (.aload_n 0, 1) := by decide +kernel
theorem dX0_apply_80 : decode cX0_apply 80 = .ok (.aload_n 0, 1) := by decide +kernel
theorem dX0_apply_81 : decode cX0_apply 81 = .ok (.getfield 15, 3) := by decide +kernel
theorem dX0_apply_84 : decode cX0_apply 84 = .ok (.iload 4, 2) := by decide +kernel
theorem dX0_apply_86 : decode cX0_apply 86 = .ok (.iaload, 1) := by decide +kernel
theorem dX0_apply_87 : decode cX0_apply 87 = .ok (.invokevirtual 60, 3) := by decide +kernel
theorem dX0_apply_90 : decode cX0_apply 90 = .ok (.invokevirtual 56, 3) := by decide +kernel
theorem dX0_apply_93 : decode cX0_apply 93 = .ok (.ireturn, 1) := by decide +kernel
theorem dX0_apply_94 : decode cX0_apply 94 = .ok (.aload_n 0, 1) := by decide +kernel
theorem dX0_apply_95 : decode cX0_apply 95 = .ok (.aload_n 0, 1) := by decide +kernel
theorem dX0_apply_96 : decode cX0_apply 96 = .ok (.getfield 15, 3) := by decide +kernel
theorem dX0_apply_99 : decode cX0_apply 99 = .ok (.iload_n 3, 1) := by decide +kernel
theorem dX0_apply_100 : decode cX0_apply 100 = .ok (.iaload, 1) := by decide +kernel
theorem dX0_apply_101 : decode cX0_apply 101 = .ok (.aload_n 0, 1) := by decide +kernel
theorem dX0_apply_102 : decode cX0_apply 102 = .ok (.getfield 15, 3) := by decide +kernel
theorem dX0_apply_105 : decode cX0_apply 105 = .ok (.iload 4, 2) := by decide +kernel
theorem dX0_apply_107 : decode cX0_apply 107 = .ok (.iaload, 1) := by decide +kernel
theorem dX0_apply_108 : decode cX0_apply 108 = .ok (.invokevirtual 56, 3) := by decide +kernel
theorem dX0_apply_111 : decode cX0_apply 111 = .ok (.ireturn, 1) := by decide +kernel
theorem dX0_point_0 : decode cX0_point 0 = .ok (.iload_n 1, 1) := by decide +kernel
theorem dX0_point_1 : decode cX0_point 1 = .ok (.iconst (-1), 1) := by decide +kernel
theorem dX0_point_2 : decode cX0_point 2 = .ok (.if_icmp .eq 18, 3) := by decide +kernel
theorem dX0_point_5 : decode cX0_point 5 = .ok (.iload_n 2, 1) := by decide +kernel
theorem dX0_point_6 : decode cX0_point 6 = .ok (.iconst (-1), 1) := by decide +kernel
theorem dX0_point_7 : decode cX0_point 7 = .ok (.if_icmp .eq 13, 3) := by decide +kernel
theorem dX0_point_10 : decode cX0_point 10 = .ok (.aload_n 0, 1) := by decide +kernel
theorem dX0_point_11 : decode cX0_point 11 = .ok (.getfield 15, 3) := by decide +kernel
theorem dX0_point_14 : decode cX0_point 14 = .ok (.iload_n 1, 1) := by decide +kernel
theorem dX0_point_15 : decode cX0_point 15 = .ok (.iaload, 1) := by decide +kernel
theorem dX0_point_16 : decode cX0_point 16 = .ok (.iload_n 2, 1) := by decide +kernel
theorem dX0_point_17 : decode cX0_point 17 = .ok (.if_icmp .ne 5, 3) := by decide +kernel
theorem dX0_point_20 : decode cX0_point 20 = .ok (.iconst 0, 1) := by decide +kernel
theorem dX0_point_21 : decode cX0_point 21 = .ok (.ireturn, 1) := by decide +kernel
theorem dX0_point_22 : decode cX0_point 22 = .ok (.aload_n 0, 1) := by decide +kernel
theorem dX0_point_23 : decode cX0_point 23 = .ok (.getfield 15, 3) := by decide +kernel
theorem dX0_point_26 : decode cX0_point 26 = .ok (.iload_n 1, 1) := by decide +kernel
theorem dX0_point_27 : decode cX0_point 27 = .ok (.iaload, 1) := by decide +kernel
theorem dX0_point_28 : decode cX0_point 28 = .ok (.iconst (-1), 1) := by decide +kernel
theorem dX0_point_29 : decode cX0_point 29 = .ok (.if_icmp .ne 13, 3) := by decide +kernel
theorem dX0_point_32 : decode cX0_point 32 = .ok (.aload_n 0, 1) := by decide +kernel
theorem dX0_point_33 : decode cX0_point 33 = .ok (.getfield 15, 3) := by decide +kernel
theorem dX0_point_36 : decode cX0_point 36 = .ok (.iload_n 1, 1) := by decide +kernel
theorem dX0_point_37 : decode cX0_point 37 = .ok (.iload_n 2, 1) := by decide +kernel
theorem dX0_point_38 : decode cX0_point 38 = .ok (.iastore, 1) := by decide +kernel
theorem dX0_point_39 : decode cX0_point 39 = .ok (.goto 14, 3) := by decide +kernel
theorem dX0_point_42 : decode cX0_point 42 = .ok (.aload_n 0, 1) := by decide +kernel
theorem dX0_point_43 : decode cX0_point 43 = .ok (.aload_n 0, 1) := by decide +kernel
theorem dX0_point_44 : decode cX0_point 44 = .ok (.getfield 15, 3) := by decide +kernel
theorem dX0_point_47 : decode cX0_point 47 = .ok (.iload_n 1, 1) := by decide +kernel
theorem dX0_point_48 : decode cX0_point 48 = .ok (.iaload, 1) := by decide +kernel
theorem dX0_point_49 : decode cX0_point 49 = .ok (.iload_n 2, 1) := by decide +kernel
theorem dX0_point_50 : decode cX0_point 50 = .ok (.invokevirtual 63, 3) := by decide +kernel
theorem dX0_point_53 : decode cX0_point 53 = .ok (.iconst 1, 1) := by decide +kernel
theorem dX0_point_54 : decode cX0_point 54 = .ok (.ireturn, 1) := by decide +kernel
theorem dX0_join_0 : decode cX0_join 0 = .ok (.iload_n 1, 1) := by decide +kernel
theorem dX0_join_1 : decode cX0_join 1 = .ok (.istore_n 3, 1) := by decide +kernel
theorem dX0_join_2 : decode cX0_join 2 = .ok (.iload_n 2, 1) := by decide +kernel
theorem dX0_join_3 : decode cX0_join 3 = .ok (.istore 4, 2) := by decide +kernel
theorem dX0_join_5 : decode cX0_join 5 = .ok (.iconst 0, 1) := by decide +kernel
theorem dX0_join_6 : decode cX0_join 6 = .ok (.istore 5, 2) := by decide +kernel
theorem dX0_join_8 : decode cX0_join 8 = .ok (.iload 5, 2) := by decide +kernel
theorem dX0_join_10 : decode cX0_join 10 = .ok (.bipush 10, 2) := by decide +kernel
theorem dX0_join_12 : decode cX0_join 12 = .ok (.if_icmp .ge 89, 3) := by decide +kernel
theorem dX0_join_15 : decode cX0_join 15 = .ok (.iload_n 3, 1) := by decide +kernel
theorem dX0_join_16 : decode cX0_join 16 = .ok (.iload 4, 2) := by decide +kernel
theorem dX0_join_18 : decode cX0_join 18 = .ok (.if_icmp .eq 83, 3) := by decide +kernel
theorem dX0_join_21 : decode cX0_join 21 = .ok (.iload_n 3, 1) := by decide +kernel
theorem dX0_join_22 : decode cX0_join 22 = .ok (.iconst (-1), 1) := by decide +kernel
theorem dX0_join_23 : decode cX0_join 23 = .ok (.if_icmp .eq 78, 3) := by decide +kernel
theorem dX0_join_26 : decode cX0_join 26 = .ok (.iload 4, 2) := by decide +kernel
theorem dX0_join_28 : decode cX0_join 28 = .ok (.iconst (-1), 1) := by decide +kernel
theorem dX0_join_29 : decode cX0_join 29 = .ok (.if_icmp .eq 72, 3) := by decide +kernel
theorem dX0_join_32 : decode cX0_join 32 = .ok (.iload_n 3, 1) := by decide +kernel
theorem dX0_join_33 : decode cX0_join 33 = .ok (.iload 4, 2) := by decide +kernel
theorem dX0_join_35 : decode cX0_join 35 = .ok (.invokestatic 67, 3) := by decide +kernel
theorem dX0_join_38 : decode cX0_join 38 = .ok (.istore 6, 2) := by decide +kernel
theorem dX0_join_40 : decode cX0_join 40 = .ok (.iload_n 3, 1) := by decide +kernel
theorem dX0_join_41 : decode cX0_join 41 = .ok (.iload 4, 2) := by decide +kernel
theorem dX0_join_43 : decode cX0_join 43 = .ok (.invokestatic 73, 3) := by decide +kernel
theorem dX0_join_46 : decode cX0_join 46 = .ok (.istore 7, 2) := by decide +kernel
theorem dX0_join_48 : decode cX0_join 48 = .ok (.aload_n 0, 1) := by decide +kernel
theorem dX0_join_49 : decode cX0_join 49 = .ok (.iload 7, 2) := by decide +kernel
theorem dX0_join_51 : decode cX0_join 51 = .ok (.iload 6, 2) := by decide +kernel
theorem dX0_join_53 : decode cX0_join 53 = .ok (.invokevirtual 76, 3) := by decide +kernel
theorem dX0_join_56 : decode cX0_join 56 = .ok (.aload_n 0, 1) := by decide +kernel
theorem dX0_join_57 : decode cX0_join 57 = .ok (.getfield 15, 3) := by decide +kernel
theorem dX0_join_60 : decode cX0_join 60 = .ok (.iload 6, 2) := by decide +kernel
theorem dX0_join_62 : decode cX0_join 62 = .ok (.iaload, 1) := by decide +kernel
theorem dX0_join_63 : decode cX0_join 63 = .ok (.istore_n 3, 1) := by decide +kernel
theorem dX0_join_64 : decode cX0_join 64 = .ok (.aload_n 0, 1) := by decide +kernel
theorem dX0_join_65 : decode cX0_join 65 = .ok (.getfield 15, 3) := by decide +kernel
theorem dX0_join_68 : decode cX0_join 68 = .ok (.iload 7, 2) := by decide +kernel
theorem dX0_join_70 : decode cX0_join 70 = .ok (.iaload, 1) := by decide +kernel
theorem dX0_join_71 : decode cX0_join 71 = .ok (.istore 4, 2) := by decide +kernel
theorem dX0_join_73 : decode cX0_join 73 = .ok (.aload_n 0, 1) := by decide +kernel
theorem dX0_join_74 : decode cX0_join 74 = .ok (.getfield 15, 3) := by decide +kernel
theorem dX0_join_77 : decode cX0_join 77 = .ok (.iload 7, 2) := by decide +kernel
theorem dX0_join_79 : decode cX0_join 79 = .ok (.iconst (-1), 1) := by decide +kernel
theorem dX0_join_80 : decode cX0_join 80 = .ok (.iastore, 1) := by decide +kernel
theorem dX0_join_81 : decode cX0_join 81 = .ok (.iload_n 3, 1) := by decide +kernel
theorem dX0_join_82 : decode cX0_join 82 = .ok (.iconst (-1), 1) := by decide +kernel
theorem dX0_join_83 : decode cX0_join 83 = .ok (.if_icmp .ne 12, 3) := by decide +kernel
theorem dX0_join_86 : decode cX0_join 86 = .ok (.aload_n 0, 1) := by decide +kernel
theorem dX0_join_87 : decode cX0_join 87 = .ok (.getfield 15, 3) := by decide +kernel
theorem dX0_join_90 : decode cX0_join 90 = .ok (.iload 6, 2) := by decide +kernel
theorem dX0_join_92 : decode cX0_join 92 = .ok (.iload 4, 2) := by decide +kernel
theorem dX0_join_94 : decode cX0_join 94 = .ok (.iastore, 1) := by decide +kernel
theorem dX0_join_95 : decode cX0_join 95 = .ok (.iinc 5 1, 3) := by decide +kernel
theorem dX0_join_98 : decode cX0_join 98 = .ok (.goto (-90), 3) := by decide +kernel
theorem dX0_join_101 : decode cX0_join 101 = .ok (.return_, 1) := by decide +kernel
theorem dX0_rename_0 : decode cX0_rename 0 = .ok (.iconst 0, 1) := by decide +kernel
theorem dX0_rename_1 : decode cX0_rename 1 = .ok (.istore_n 3, 1) := by decide +kernel
theorem dX0_rename_2 : decode cX0_rename 2 = .ok (.iload_n 3, 1) := by decide +kernel
theorem dX0_rename_3 : decode cX0_rename 3 = .ok (.bipush 10, 2) := by decide +kernel
theorem dX0_rename_5 : decode cX0_rename 5 = .ok (.if_icmp .ge 43, 3) := by decide +kernel
theorem dX0_rename_8 : decode cX0_rename 8 = .ok (.aload_n 0, 1) := by decide +kernel
theorem dX0_rename_9 : decode cX0_rename 9 = .ok (.getfield 9, 3) := by decide +kernel
theorem dX0_rename_12 : decode cX0_rename 12 = .ok (.iload_n 3, 1) := by decide +kernel
theorem dX0_rename_13 : decode cX0_rename 13 = .ok (.iaload, 1) := by decide +kernel
theorem dX0_rename_14 : decode cX0_rename 14 = .ok (.iload_n 1, 1) := by decide +kernel
theorem dX0_rename_15 : decode cX0_rename 15 = .ok (.if_icmp .ne 10, 3) := by decide +kernel
theorem dX0_rename_18 : decode cX0_rename 18 = .ok (.aload_n 0, 1) := by decide +kernel
theorem dX0_rename_19 : decode cX0_rename 19 = .ok (.getfield 9, 3) := by decide +kernel
theorem dX0_rename_22 : decode cX0_rename 22 = .ok (.iload_n 3, 1) := by decide +kernel
theorem dX0_rename_23 : decode cX0_rename 23 = .ok (.iload_n 2, 1) := by decide +kernel
theorem dX0_rename_24 : decode cX0_rename 24 = .ok (.iastore, 1) := by decide +kernel
theorem dX0_rename_25 : decode cX0_rename 25 = .ok (.aload_n 0, 1) := by decide +kernel
theorem dX0_rename_26 : decode cX0_rename 26 = .ok (.getfield 15, 3) := by decide +kernel
theorem dX0_rename_29 : decode cX0_rename 29 = .ok (.iload_n 3, 1) := by decide +kernel
theorem dX0_rename_30 : decode cX0_rename 30 = .ok (.iaload, 1) := by decide +kernel
theorem dX0_rename_31 : decode cX0_rename 31 = .ok (.iload_n 1, 1) := by decide +kernel
theorem dX0_rename_32 : decode cX0_rename 32 = .ok (.if_icmp .ne 10, 3) := by decide +kernel
theorem dX0_rename_35 : decode cX0_rename 35 = .ok (.aload_n 0, 1) := by decide +kernel
theorem dX0_rename_36 : decode cX0_rename 36 = .ok (.getfield 15, 3) := by decide +kernel
theorem dX0_rename_39 : decode cX0_rename 39 = .ok (.iload_n 3, 1) := by decide +kernel
theorem dX0_rename_40 : decode cX0_rename 40 = .ok (.iload_n 2, 1) := by decide +kernel
theorem dX0_rename_41 : decode cX0_rename 41 = .ok (.iastore, 1) := by decide +kernel
theorem dX0_rename_42 : decode cX0_rename 42 = .ok (.iinc 3 1, 3) := by decide +kernel
theorem dX0_rename_45 : decode cX0_rename 45 = .ok (.goto (-43), 3) := by decide +kernel
theorem dX0_rename_48 : decode cX0_rename 48 = .ok (.return_, 1) := by decide +kernel
theorem dX1_init_0 : decode cX1_init 0 = .ok (.aload_n 0, 1) := by decide +kernel
theorem dX1_init_1 : decode cX1_init 1 = .ok (.invokespecial 3, 3) := by decide +kernel
theorem dX1_init_4 : decode cX1_init 4 = .ok (.aload_n 0, 1) := by decide +kernel
theorem dX1_init_5 : decode cX1_init 5 = .ok (.bipush 10, 2) := by decide +kernel
theorem dX1_init_7 : decode cX1_init 7 = .ok (.newarray .int, 2) := by decide +kernel
theorem dX1_init_9 : decode cX1_init 9 = .ok (.putfield 9, 3) := by decide +kernel
theorem dX1_init_12 : decode cX1_init 12 = .ok (.return_, 1) := by decide +kernel
theorem dX1_setOf_0 : decode cX1_setOf 0 = .ok (.aload_n 0, 1) := by decide +kernel
theorem dX1_setOf_1 : decode cX1_setOf 1 = .ok (.getfield 9, 3) := by decide +kernel
theorem dX1_setOf_4 : decode cX1_setOf 4 = .ok (.iload_n 1, 1) := by decide +kernel
theorem dX1_setOf_5 : decode cX1_setOf 5 = .ok (.iaload, 1) := by decide +kernel
theorem dX1_setOf_6 : decode cX1_setOf 6 = .ok (.ireturn, 1) := by decide +kernel
theorem dX1_total_0 : decode cX1_total 0 = .ok (.iconst 0, 1) := by decide +kernel
theorem dX1_total_1 : decode cX1_total 1 = .ok (.istore_n 1, 1) := by decide +kernel
theorem dX1_total_2 : decode cX1_total 2 = .ok (.iconst 0, 1) := by decide +kernel
theorem dX1_total_3 : decode cX1_total 3 = .ok (.istore_n 2, 1) := by decide +kernel
theorem dX1_total_4 : decode cX1_total 4 = .ok (.iload_n 2, 1) := by decide +kernel
theorem dX1_total_5 : decode cX1_total 5 = .ok (.bipush 10, 2) := by decide +kernel
theorem dX1_total_7 : decode cX1_total 7 = .ok (.if_icmp .ge 21, 3) := by decide +kernel
theorem dX1_total_10 : decode cX1_total 10 = .ok (.iload_n 1, 1) := by decide +kernel
theorem dX1_total_11 : decode cX1_total 11 = .ok (.aload_n 0, 1) := by decide +kernel
theorem dX1_total_12 : decode cX1_total 12 = .ok (.getfield 9, 3) := by decide +kernel
theorem dX1_total_15 : decode cX1_total 15 = .ok (.iload_n 2, 1) := by decide +kernel
theorem dX1_total_16 : decode cX1_total 16 = .ok (.iaload, 1) := by decide +kernel
theorem dX1_total_17 : decode cX1_total 17 = .ok (.invokestatic 15, 3) := by decide +kernel
theorem dX1_total_20 : decode cX1_total 20 = .ok (.iadd, 1) := by decide +kernel
theorem dX1_total_21 : decode cX1_total 21 = .ok (.istore_n 1, 1) := by decide +kernel
theorem dX1_total_22 : decode cX1_total 22 = .ok (.iinc 2 1, 3) := by decide +kernel
theorem dX1_total_25 : decode cX1_total 25 = .ok (.goto (-21), 3) := by decide +kernel
theorem dX1_total_28 : decode cX1_total 28 = .ok (.iload_n 1, 1) := by decide +kernel
theorem dX1_total_29 : decode cX1_total 29 = .ok (.ireturn, 1) := by decide +kernel
theorem dX1_solve_0 : decode cX1_solve 0 = .ok (.aload_n 0, 1) := by decide +kernel
theorem dX1_solve_1 : decode cX1_solve 1 = .ok (.getfield 9, 3) := by decide +kernel
theorem dX1_solve_4 : decode cX1_solve 4 = .ok (.iconst 0, 1) := by decide +kernel
theorem dX1_solve_5 : decode cX1_solve 5 = .ok (.invokestatic 21, 3) := by decide +kernel
theorem dX1_solve_8 : decode cX1_solve 8 = .ok (.iconst 1, 1) := by decide +kernel
theorem dX1_solve_9 : decode cX1_solve 9 = .ok (.istore_n 3, 1) := by decide +kernel
theorem dX1_solve_10 : decode cX1_solve 10 = .ok (.iconst 0, 1) := by decide +kernel
theorem dX1_solve_11 : decode cX1_solve 11 = .ok (.istore 4, 2) := by decide +kernel
theorem dX1_solve_13 : decode cX1_solve 13 = .ok (.iload 4, 2) := by decide +kernel
theorem dX1_solve_15 : decode cX1_solve 15 = .ok (.bipush 100, 2) := by decide +kernel
theorem dX1_solve_17 : decode cX1_solve 17 = .ok (.if_icmp .gt 51, 3) := by decide +kernel
theorem dX1_solve_20 : decode cX1_solve 20 = .ok (.iload_n 3, 1) := by decide +kernel
theorem dX1_solve_21 : decode cX1_solve 21 = .ok (.ifCond .eq 47, 3) := by decide +kernel
theorem dX1_solve_24 : decode cX1_solve 24 = .ok (.iconst 0, 1) := by decide +kernel
theorem dX1_solve_25 : decode cX1_solve 25 = .ok (.istore_n 3, 1) := by decide +kernel
theorem dX1_solve_26 : decode cX1_solve 26 = .ok (.iconst 0, 1) := by decide +kernel
theorem dX1_solve_27 : decode cX1_solve 27 = .ok (.istore 5, 2) := by decide +kernel
theorem dX1_solve_29 : decode cX1_solve 29 = .ok (.iload 5, 2) := by decide +kernel
theorem dX1_solve_31 : decode cX1_solve 31 = .ok (.aload_n 1, 1) := by decide +kernel
theorem dX1_solve_32 : decode cX1_solve 32 = .ok (.invokevirtual 27, 3) := by decide +kernel
theorem dX1_solve_35 : decode cX1_solve 35 = .ok (.if_icmp .ge 27, 3) := by decide +kernel
theorem dX1_solve_38 : decode cX1_solve 38 = .ok (.iload 5, 2) := by decide +kernel
theorem dX1_solve_40 : decode cX1_solve 40 = .ok (.iload_n 2, 1) := by decide +kernel
theorem dX1_solve_41 : decode cX1_solve 41 = .ok (.if_icmp .eq 15, 3) := by decide +kernel
theorem dX1_solve_44 : decode cX1_solve 44 = .ok (.aload_n 0, 1) := by decide +kernel
theorem dX1_solve_45 : decode cX1_solve 45 = .ok (.aload_n 1, 1) := by decide +kernel
theorem dX1_solve_46 : decode cX1_solve 46 = .ok (.iload 5, 2) := by decide +kernel
theorem dX1_solve_48 : decode cX1_solve 48 = .ok (.invokevirtual 33, 3) := by decide +kernel
theorem dX1_solve_51 : decode cX1_solve 51 = .ok (.ifCond .eq 5, 3) := by decide +kernel
theorem dX1_solve_54 : decode cX1_solve 54 = .ok (.iconst 1, 1) := by decide +kernel
theorem dX1_solve_55 : decode cX1_solve 55 = .ok (.istore_n 3, 1) := by decide +kernel
theorem dX1_solve_56 : decode cX1_solve 56 = .ok (.iinc 5 1, 3) := by decide +kernel
theorem dX1_solve_59 : decode cX1_solve 59 = .ok (.goto (-30), 3) := by decide +kernel
theorem dX1_solve_62 : decode cX1_solve 62 = .ok (.iinc 4 1, 3) := by decide +kernel
theorem dX1_solve_65 : decode cX1_solve 65 = .ok (.goto (-52), 3) := by decide +kernel
theorem dX1_solve_68 : decode cX1_solve 68 = .ok (.return_, 1) := by decide +kernel
theorem dX1_apply_0 : decode cX1_apply 0 = .ok (.aload_n 1, 1) := by decide +kernel
theorem dX1_apply_1 : decode cX1_apply 1 = .ok (.iload_n 2, 1) := by decide +kernel
theorem dX1_apply_2 : decode cX1_apply 2 = .ok (.invokevirtual 37, 3) := by decide +kernel
theorem dX1_apply_5 : decode cX1_apply 5 = .ok (.istore_n 3, 1) := by decide +kernel
theorem dX1_apply_6 : decode cX1_apply 6 = .ok (.aload_n 1, 1) := by decide +kernel
theorem dX1_apply_7 : decode cX1_apply 7 = .ok (.iload_n 2, 1) := by decide +kernel
theorem dX1_apply_8 : decode cX1_apply 8 = .ok (.invokevirtual 40, 3) := by decide +kernel
theorem dX1_apply_11 : decode cX1_apply 11 = .ok (.istore 4, 2) := by decide +kernel
theorem dX1_apply_13 : decode cX1_apply 13 = .ok (.aload_n 1, 1) := by decide +kernel
theorem dX1_apply_14 : decode cX1_apply 14 = .ok (.iload_n 2, 1) := by decide +kernel
theorem dX1_apply_15 : decode cX1_apply 15 = .ok (.invokevirtual 43, 3) := by decide +kernel
theorem dX1_apply_18 : decode cX1_apply 18 = .ok (.tableswitch 67 0 2 #[26, 37, 50], 26) := by decide +kernel
theorem dX1_apply_44 : decode cX1_apply 44 = .ok (.aload_n 0, 1) := by decide +kernel
theorem dX1_apply_45 : decode cX1_apply 45 = .ok (.iload_n 3, 1) := by decide +kernel
theorem dX1_apply_46 : decode cX1_apply 46 = .ok (.iload 4, 2) := by decide +kernel
theorem dX1_apply_48 : decode cX1_apply 48 = .ok (.invokestatic 46, 3) := by decide +kernel
theorem dX1_apply_51 : decode cX1_apply 51 = .ok (.invokevirtual 49, 3) := by decide +kernel
theorem dX1_apply_54 : decode cX1_apply 54 = .ok (.ireturn, 1) := by decide +kernel
theorem dX1_apply_55 : decode cX1_apply 55 = .ok (.aload_n 0, 1) := by decide +kernel
theorem dX1_apply_56 : decode cX1_apply 56 = .ok (.iload_n 3, 1) := by decide +kernel
theorem dX1_apply_57 : decode cX1_apply 57 = .ok (.aload_n 0, 1) := by decide +kernel
theorem dX1_apply_58 : decode cX1_apply 58 = .ok (.getfield 9, 3) := by decide +kernel
theorem dX1_apply_61 : decode cX1_apply 61 = .ok (.iload 4, 2) := by decide +kernel
theorem dX1_apply_63 : decode cX1_apply 63 = .ok (.iaload, 1) := by decide +kernel
theorem dX1_apply_64 : decode cX1_apply 64 = .ok (.invokevirtual 49, 3) := by decide +kernel
theorem dX1_apply_67 : decode cX1_apply 67 = .ok (.ireturn, 1) := by decide +kernel
theorem dX1_apply_68 : decode cX1_apply 68 = .ok (.aload_n 0, 1) := by decide +kernel
theorem dX1_apply_69 : decode cX1_apply 69 = .ok (.iload_n 3, 1) := by decide +kernel
theorem dX1_apply_70 : decode cX1_apply 70 = .ok (.aload_n 0, 1) := by decide +kernel
theorem dX1_apply_71 : decode cX1_apply 71 = .ok (.aload_n 0, 1) := by decide +kernel
theorem dX1_apply_72 : decode cX1_apply 72 = .ok (.getfield 9, 3) := by decide +kernel
theorem dX1_apply_75 : decode cX1_apply 75 = .ok (.iload 4, 2) := by decide +kernel
theorem dX1_apply_77 : decode cX1_apply 77 = .ok (.iaload, 1) := by decide +kernel
theorem dX1_apply_78 : decode cX1_apply 78 = .ok (.invokevirtual 53, 3) := by decide +kernel
theorem dX1_apply_81 : decode cX1_apply 81 = .ok (.invokevirtual 49, 3) := by decide +kernel
theorem dX1_apply_84 : decode cX1_apply 84 = .ok (.ireturn, 1) := by decide +kernel
theorem dX1_apply_85 : decode cX1_apply 85 = .ok (.aload_n 0, 1) := by decide +kernel
theorem dX1_apply_86 : decode cX1_apply 86 = .ok (.aload_n 0, 1) := by decide +kernel
theorem dX1_apply_87 : decode cX1_apply 87 = .ok (.getfield 9, 3) := by decide +kernel
theorem dX1_apply_90 : decode cX1_apply 90 = .ok (.iload_n 3, 1) := by decide +kernel
theorem dX1_apply_91 : decode cX1_apply 91 = .ok (.iaload, 1) := by decide +kernel
theorem dX1_apply_92 : decode cX1_apply 92 = .ok (.aload_n 0, 1) := by decide +kernel
theorem dX1_apply_93 : decode cX1_apply 93 = .ok (.getfield 9, 3) := by decide +kernel
theorem dX1_apply_96 : decode cX1_apply 96 = .ok (.iload 4, 2) := by decide +kernel
theorem dX1_apply_98 : decode cX1_apply 98 = .ok (.iaload, 1) := by decide +kernel
theorem dX1_apply_99 : decode cX1_apply 99 = .ok (.invokevirtual 56, 3) := by decide +kernel
theorem dX1_apply_102 : decode cX1_apply 102 = .ok (.ireturn, 1) := by decide +kernel
theorem dX1_grow_0 : decode cX1_grow 0 = .ok (.iload_n 2, 1) := by decide +kernel
theorem dX1_grow_1 : decode cX1_grow 1 = .ok (.aload_n 0, 1) := by decide +kernel
theorem dX1_grow_2 : decode cX1_grow 2 = .ok (.getfield 9, 3) := by decide +kernel
theorem dX1_grow_5 : decode cX1_grow 5 = .ok (.iload_n 1, 1) := by decide +kernel
theorem dX1_grow_6 : decode cX1_grow 6 = .ok (.iaload, 1) := by decide +kernel
theorem dX1_grow_7 : decode cX1_grow 7 = .ok (.iconst (-1), 1) := by decide +kernel
theorem dX1_grow_8 : decode cX1_grow 8 = .ok (.ixor, 1) := by decide +kernel
theorem dX1_grow_9 : decode cX1_grow 9 = .ok (.iand, 1) := by decide +kernel
theorem dX1_grow_10 : decode cX1_grow 10 = .ok (.ifCond .eq 7, 3) := by decide +kernel
theorem dX1_grow_13 : decode cX1_grow 13 = .ok (.iconst 1, 1) := by decide +kernel
theorem dX1_grow_14 : decode cX1_grow 14 = .ok (.goto 4, 3) := by decide +kernel
theorem dX1_grow_17 : decode cX1_grow 17 = .ok (.iconst 0, 1) := by decide +kernel
theorem dX1_grow_18 : decode cX1_grow 18 = .ok (.istore_n 3, 1) := by decide +kernel
theorem dX1_grow_19 : decode cX1_grow 19 = .ok (.aload_n 0, 1) := by decide +kernel
theorem dX1_grow_20 : decode cX1_grow 20 = .ok (.getfield 9, 3) := by decide +kernel
theorem dX1_grow_23 : decode cX1_grow 23 = .ok (.iload_n 1, 1) := by decide +kernel
theorem dX1_grow_24 : decode cX1_grow 24 = .ok (.dup2, 1) := by decide +kernel
theorem dX1_grow_25 : decode cX1_grow 25 = .ok (.iaload, 1) := by decide +kernel
theorem dX1_grow_26 : decode cX1_grow 26 = .ok (.iload_n 2, 1) := by decide +kernel
theorem dX1_grow_27 : decode cX1_grow 27 = .ok (.ior, 1) := by decide +kernel
theorem dX1_grow_28 : decode cX1_grow 28 = .ok (.iastore, 1) := by decide +kernel
theorem dX1_grow_29 : decode cX1_grow 29 = .ok (.iload_n 3, 1) := by decide +kernel
theorem dX1_grow_30 : decode cX1_grow 30 = .ok (.ireturn, 1) := by decide +kernel
theorem dX1_unionOver_0 : decode cX1_unionOver 0 = .ok (.iconst 0, 1) := by decide +kernel
theorem dX1_unionOver_1 : decode cX1_unionOver 1 = .ok (.istore_n 2, 1) := by decide +kernel
theorem dX1_unionOver_2 : decode cX1_unionOver 2 = .ok (.iconst 0, 1) := by decide +kernel
theorem dX1_unionOver_3 : decode cX1_unionOver 3 = .ok (.istore_n 3, 1) := by decide +kernel
theorem dX1_unionOver_4 : decode cX1_unionOver 4 = .ok (.iload_n 3, 1) := by decide +kernel
theorem dX1_unionOver_5 : decode cX1_unionOver 5 = .ok (.bipush 10, 2) := by decide +kernel
theorem dX1_unionOver_7 : decode cX1_unionOver 7 = .ok (.if_icmp .ge 26, 3) := by decide +kernel
theorem dX1_unionOver_10 : decode cX1_unionOver 10 = .ok (.iload_n 1, 1) := by decide +kernel
theorem dX1_unionOver_11 : decode cX1_unionOver 11 = .ok (.iload_n 3, 1) := by decide +kernel
theorem dX1_unionOver_12 : decode cX1_unionOver 12 = .ok (.invokestatic 59, 3) := by decide +kernel
theorem dX1_unionOver_15 : decode cX1_unionOver 15 = .ok (.ifCond .eq 12, 3) := by decide +kernel
theorem dX1_unionOver_18 : decode cX1_unionOver 18 = .ok (.iload_n 2, 1) := by decide +kernel
theorem dX1_unionOver_19 : decode cX1_unionOver 19 = .ok (.aload_n 0, 1) := by decide +kernel
theorem dX1_unionOver_20 : decode cX1_unionOver 20 = .ok (.getfield 9, 3) := by decide +kernel
theorem dX1_unionOver_23 : decode cX1_unionOver 23 = .ok (.iload_n 3, 1) := by decide +kernel
theorem dX1_unionOver_24 : decode cX1_unionOver 24 = .ok (.iaload, 1) := by decide +kernel
theorem dX1_unionOver_25 : decode cX1_unionOver 25 = .ok (.ior, 1) := by decide +kernel
theorem dX1_unionOver_26 : decode cX1_unionOver 26 = .ok (.istore_n 2, 1) := by decide +kernel
theorem dX1_unionOver_27 : decode cX1_unionOver 27 = .ok (.iinc 3 1, 3) := by decide +kernel
theorem dX1_unionOver_30 : decode cX1_unionOver 30 = .ok (.goto (-26), 3) := by decide +kernel
theorem dX1_unionOver_33 : decode cX1_unionOver 33 = .ok (.iload_n 2, 1) := by decide +kernel
theorem dX1_unionOver_34 : decode cX1_unionOver 34 = .ok (.ireturn, 1) := by decide +kernel
theorem dX1_growAll_0 : decode cX1_growAll 0 = .ok (.iconst 0, 1) := by decide +kernel
theorem dX1_growAll_1 : decode cX1_growAll 1 = .ok (.istore_n 3, 1) := by decide +kernel
theorem dX1_growAll_2 : decode cX1_growAll 2 = .ok (.iconst 0, 1) := by decide +kernel
theorem dX1_growAll_3 : decode cX1_growAll 3 = .ok (.istore 4, 2) := by decide +kernel
theorem dX1_growAll_5 : decode cX1_growAll 5 = .ok (.iload 4, 2) := by decide +kernel
theorem dX1_growAll_7 : decode cX1_growAll 7 = .ok (.bipush 10, 2) := by decide +kernel
theorem dX1_growAll_9 : decode cX1_growAll 9 = .ok (.if_icmp .ge 30, 3) := by decide +kernel
theorem dX1_growAll_12 : decode cX1_growAll 12 = .ok (.iload_n 1, 1) := by decide +kernel
theorem dX1_growAll_13 : decode cX1_growAll 13 = .ok (.iload 4, 2) := by decide +kernel
theorem dX1_growAll_15 : decode cX1_growAll 15 = .ok (.invokestatic 59, 3) := by decide +kernel
theorem dX1_growAll_18 : decode cX1_growAll 18 = .ok (.ifCond .eq 15, 3) := by decide +kernel
theorem dX1_growAll_21 : decode cX1_growAll 21 = .ok (.aload_n 0, 1) := by decide +kernel
theorem dX1_growAll_22 : decode cX1_growAll 22 = .ok (.iload 4, 2) := by decide +kernel
theorem dX1_growAll_24 : decode cX1_growAll 24 = .ok (.iload_n 2, 1) := by decide +kernel
theorem dX1_growAll_25 : decode cX1_growAll 25 = .ok (.invokevirtual 49, 3) := by decide +kernel
theorem dX1_growAll_28 : decode cX1_growAll 28 = .ok (.ifCond .eq 5, 3) := by decide +kernel
theorem dX1_growAll_31 : decode cX1_growAll 31 = .ok (.iconst 1, 1) := by decide +kernel
theorem dX1_growAll_32 : decode cX1_growAll 32 = .ok (.istore_n 3, 1) := by decide +kernel
theorem dX1_growAll_33 : decode cX1_growAll 33 = .ok (.iinc 4 1, 3) := by decide +kernel
theorem dX1_growAll_36 : decode cX1_growAll 36 = .ok (.goto (-31), 3) := by decide +kernel
theorem dX1_growAll_39 : decode cX1_growAll 39 = .ok (.iload_n 3, 1) := by decide +kernel
theorem dX1_growAll_40 : decode cX1_growAll 40 = .ok (.ireturn, 1) := by decide +kernel
theorem dX2_init_0 : decode cX2_init 0 = .ok (.aload_n 0, 1) := by decide +kernel
theorem dX2_init_1 : decode cX2_init 1 = .ok (.invokespecial 3, 3) := by decide +kernel
theorem dX2_init_4 : decode cX2_init 4 = .ok (.aload_n 0, 1) := by decide +kernel
theorem dX2_init_5 : decode cX2_init 5 = .ok (.bipush 14, 2) := by decide +kernel
theorem dX2_init_7 : decode cX2_init 7 = .ok (.newarray .int, 2) := by decide +kernel
theorem dX2_init_9 : decode cX2_init 9 = .ok (.putfield 9, 3) := by decide +kernel
theorem dX2_init_12 : decode cX2_init 12 = .ok (.return_, 1) := by decide +kernel
theorem dX2_size_0 : decode cX2_size 0 = .ok (.aload_n 0, 1) := by decide +kernel
theorem dX2_size_1 : decode cX2_size 1 = .ok (.getfield 15, 3) := by decide +kernel
theorem dX2_size_4 : decode cX2_size 4 = .ok (.ireturn, 1) := by decide +kernel
theorem dX2_sortAt_0 : decode cX2_sortAt 0 = .ok (.aload_n 0, 1) := by decide +kernel
theorem dX2_sortAt_1 : decode cX2_sortAt 1 = .ok (.getfield 9, 3) := by decide +kernel
theorem dX2_sortAt_4 : decode cX2_sortAt 4 = .ok (.iload_n 1, 1) := by decide +kernel
theorem dX2_sortAt_5 : decode cX2_sortAt 5 = .ok (.iaload, 1) := by decide +kernel
theorem dX2_sortAt_6 : decode cX2_sortAt 6 = .ok (.bipush 8, 2) := by decide +kernel
theorem dX2_sortAt_8 : decode cX2_sortAt 8 = .ok (.ishr, 1) := by decide +kernel
theorem dX2_sortAt_9 : decode cX2_sortAt 9 = .ok (.ireturn, 1) := by decide +kernel
theorem dX2_leftAt_0 : decode cX2_leftAt 0 = .ok (.aload_n 0, 1) := by decide +kernel
theorem dX2_leftAt_1 : decode cX2_leftAt 1 = .ok (.getfield 9, 3) := by decide +kernel
theorem dX2_leftAt_4 : decode cX2_leftAt 4 = .ok (.iload_n 1, 1) := by decide +kernel
theorem dX2_leftAt_5 : decode cX2_leftAt 5 = .ok (.iaload, 1) := by decide +kernel
theorem dX2_leftAt_6 : decode cX2_leftAt 6 = .ok (.iconst 4, 1) := by decide +kernel
theorem dX2_leftAt_7 : decode cX2_leftAt 7 = .ok (.ishr, 1) := by decide +kernel
theorem dX2_leftAt_8 : decode cX2_leftAt 8 = .ok (.bipush 15, 2) := by decide +kernel
theorem dX2_leftAt_10 : decode cX2_leftAt 10 = .ok (.iand, 1) := by decide +kernel
theorem dX2_leftAt_11 : decode cX2_leftAt 11 = .ok (.ireturn, 1) := by decide +kernel
theorem dX2_rightAt_0 : decode cX2_rightAt 0 = .ok (.aload_n 0, 1) := by decide +kernel
theorem dX2_rightAt_1 : decode cX2_rightAt 1 = .ok (.getfield 9, 3) := by decide +kernel
theorem dX2_rightAt_4 : decode cX2_rightAt 4 = .ok (.iload_n 1, 1) := by decide +kernel
theorem dX2_rightAt_5 : decode cX2_rightAt 5 = .ok (.iaload, 1) := by decide +kernel
theorem dX2_rightAt_6 : decode cX2_rightAt 6 = .ok (.bipush 15, 2) := by decide +kernel
theorem dX2_rightAt_8 : decode cX2_rightAt 8 = .ok (.iand, 1) := by decide +kernel
theorem dX2_rightAt_9 : decode cX2_rightAt 9 = .ok (.ireturn, 1) := by decide +kernel
theorem dX2_append_0 : decode cX2_append 0 = .ok (.aload_n 0, 1) := by decide +kernel
theorem dX2_append_1 : decode cX2_append 1 = .ok (.getfield 15, 3) := by decide +kernel
theorem dX2_append_4 : decode cX2_append 4 = .ok (.bipush 14, 2) := by decide +kernel
theorem dX2_append_6 : decode cX2_append 6 = .ok (.if_icmp .ge 32, 3) := by decide +kernel
theorem dX2_append_9 : decode cX2_append 9 = .ok (.aload_n 0, 1) := by decide +kernel
theorem dX2_append_10 : decode cX2_append 10 = .ok (.getfield 9, 3) := by decide +kernel
theorem dX2_append_13 : decode cX2_append 13 = .ok (.aload_n 0, 1) := by decide +kernel
theorem dX2_append_14 : decode cX2_append 14 = .ok (.getfield 15, 3) := by decide +kernel
theorem dX2_append_17 : decode cX2_append 17 = .ok (.iload_n 1, 1) := by decide +kernel
theorem dX2_append_18 : decode cX2_append 18 = .ok (.bipush 8, 2) := by decide +kernel
theorem dX2_append_20 : decode cX2_append 20 = .ok (.ishl, 1) := by decide +kernel
theorem dX2_append_21 : decode cX2_append 21 = .ok (.iload_n 2, 1) := by decide +kernel
theorem dX2_append_22 : decode cX2_append 22 = .ok (.iconst 4, 1) := by decide +kernel
theorem dX2_append_23 : decode cX2_append 23 = .ok (.ishl, 1) := by decide +kernel
theorem dX2_append_24 : decode cX2_append 24 = .ok (.ior, 1) := by decide +kernel
theorem dX2_append_25 : decode cX2_append 25 = .ok (.iload_n 3, 1) := by decide +kernel
theorem dX2_append_26 : decode cX2_append 26 = .ok (.ior, 1) := by decide +kernel
theorem dX2_append_27 : decode cX2_append 27 = .ok (.iastore, 1) := by decide +kernel
theorem dX2_append_28 : decode cX2_append 28 = .ok (.aload_n 0, 1) := by decide +kernel
theorem dX2_append_29 : decode cX2_append 29 = .ok (.dup, 1) := by decide +kernel
theorem dX2_append_30 : decode cX2_append 30 = .ok (.getfield 15, 3) := by decide +kernel
theorem dX2_append_33 : decode cX2_append 33 = .ok (.iconst 1, 1) := by decide +kernel
theorem dX2_append_34 : decode cX2_append 34 = .ok (.iadd, 1) := by decide +kernel
theorem dX2_append_35 : decode cX2_append 35 = .ok (.putfield 15, 3) := by decide +kernel
theorem dX2_append_38 : decode cX2_append 38 = .ok (.return_, 1) := by decide +kernel
theorem dX2_removeAt_0 : decode cX2_removeAt 0 = .ok (.aload_n 0, 1) := by decide +kernel
theorem dX2_removeAt_1 : decode cX2_removeAt 1 = .ok (.iload_n 1, 1) := by decide +kernel
theorem dX2_removeAt_2 : decode cX2_removeAt 2 = .ok (.aload_n 0, 1) := by decide +kernel
theorem dX2_removeAt_3 : decode cX2_removeAt 3 = .ok (.getfield 15, 3) := by decide +kernel
theorem dX2_removeAt_6 : decode cX2_removeAt 6 = .ok (.iconst 1, 1) := by decide +kernel
theorem dX2_removeAt_7 : decode cX2_removeAt 7 = .ok (.isub, 1) := by decide +kernel
theorem dX2_removeAt_8 : decode cX2_removeAt 8 = .ok (.invokevirtual 19, 3) := by decide +kernel
theorem dX2_removeAt_11 : decode cX2_removeAt 11 = .ok (.aload_n 0, 1) := by decide +kernel
theorem dX2_removeAt_12 : decode cX2_removeAt 12 = .ok (.dup, 1) := by decide +kernel
theorem dX2_removeAt_13 : decode cX2_removeAt 13 = .ok (.getfield 15, 3) := by decide +kernel
theorem dX2_removeAt_16 : decode cX2_removeAt 16 = .ok (.iconst 1, 1) := by decide +kernel
theorem dX2_removeAt_17 : decode cX2_removeAt 17 = .ok (.isub, 1) := by decide +kernel
theorem dX2_removeAt_18 : decode cX2_removeAt 18 = .ok (.putfield 15, 3) := by decide +kernel
theorem dX2_removeAt_21 : decode cX2_removeAt 21 = .ok (.return_, 1) := by decide +kernel
theorem dX2_moveTo_0 : decode cX2_moveTo 0 = .ok (.aload_n 0, 1) := by decide +kernel
theorem dX2_moveTo_1 : decode cX2_moveTo 1 = .ok (.getfield 9, 3) := by decide +kernel
theorem dX2_moveTo_4 : decode cX2_moveTo 4 = .ok (.iload_n 1, 1) := by decide +kernel
theorem dX2_moveTo_5 : decode cX2_moveTo 5 = .ok (.iaload, 1) := by decide +kernel
theorem dX2_moveTo_6 : decode cX2_moveTo 6 = .ok (.istore_n 3, 1) := by decide +kernel
theorem dX2_moveTo_7 : decode cX2_moveTo 7 = .ok (.iload_n 1, 1) := by decide +kernel
theorem dX2_moveTo_8 : decode cX2_moveTo 8 = .ok (.istore 4, 2) := by decide +kernel
theorem dX2_moveTo_10 : decode cX2_moveTo 10 = .ok (.iload 4, 2) := by decide +kernel
theorem dX2_moveTo_12 : decode cX2_moveTo 12 = .ok (.iload_n 2, 1) := by decide +kernel
theorem dX2_moveTo_13 : decode cX2_moveTo 13 = .ok (.if_icmp .ge 25, 3) := by decide +kernel
theorem dX2_moveTo_16 : decode cX2_moveTo 16 = .ok (.aload_n 0, 1) := by decide +kernel
theorem dX2_moveTo_17 : decode cX2_moveTo 17 = .ok (.getfield 9, 3) := by decide +kernel
theorem dX2_moveTo_20 : decode cX2_moveTo 20 = .ok (.iload 4, 2) := by decide +kernel
theorem dX2_moveTo_22 : decode cX2_moveTo 22 = .ok (.aload_n 0, 1) := by decide +kernel
theorem dX2_moveTo_23 : decode cX2_moveTo 23 = .ok (.getfield 9, 3) := by decide +kernel
theorem dX2_moveTo_26 : decode cX2_moveTo 26 = .ok (.iload 4, 2) := by decide +kernel
theorem dX2_moveTo_28 : decode cX2_moveTo 28 = .ok (.iconst 1, 1) := by decide +kernel
theorem dX2_moveTo_29 : decode cX2_moveTo 29 = .ok (.iadd, 1) := by decide +kernel
theorem dX2_moveTo_30 : decode cX2_moveTo 30 = .ok (.iaload, 1) := by decide +kernel
theorem dX2_moveTo_31 : decode cX2_moveTo 31 = .ok (.iastore, 1) := by decide +kernel
theorem dX2_moveTo_32 : decode cX2_moveTo 32 = .ok (.iinc 4 1, 3) := by decide +kernel
theorem dX2_moveTo_35 : decode cX2_moveTo 35 = .ok (.goto (-25), 3) := by decide +kernel
theorem dX2_moveTo_38 : decode cX2_moveTo 38 = .ok (.iload_n 1, 1) := by decide +kernel
theorem dX2_moveTo_39 : decode cX2_moveTo 39 = .ok (.istore 4, 2) := by decide +kernel
theorem dX2_moveTo_41 : decode cX2_moveTo 41 = .ok (.iload 4, 2) := by decide +kernel
theorem dX2_moveTo_43 : decode cX2_moveTo 43 = .ok (.iload_n 2, 1) := by decide +kernel
theorem dX2_moveTo_44 : decode cX2_moveTo 44 = .ok (.if_icmp .le 25, 3) := by decide +kernel
theorem dX2_moveTo_47 : decode cX2_moveTo 47 = .ok (.aload_n 0, 1) := by decide +kernel
theorem dX2_moveTo_48 : decode cX2_moveTo 48 = .ok (.getfield 9, 3) := by decide +kernel
theorem dX2_moveTo_51 : decode cX2_moveTo 51 = .ok (.iload 4, 2) := by decide +kernel
theorem dX2_moveTo_53 : decode cX2_moveTo 53 = .ok (.aload_n 0, 1) := by decide +kernel
theorem dX2_moveTo_54 : decode cX2_moveTo 54 = .ok (.getfield 9, 3) := by decide +kernel
theorem dX2_moveTo_57 : decode cX2_moveTo 57 = .ok (.iload 4, 2) := by decide +kernel
theorem dX2_moveTo_59 : decode cX2_moveTo 59 = .ok (.iconst 1, 1) := by decide +kernel
theorem dX2_moveTo_60 : decode cX2_moveTo 60 = .ok (.isub, 1) := by decide +kernel
theorem dX2_moveTo_61 : decode cX2_moveTo 61 = .ok (.iaload, 1) := by decide +kernel
theorem dX2_moveTo_62 : decode cX2_moveTo 62 = .ok (.iastore, 1) := by decide +kernel
theorem dX2_moveTo_63 : decode cX2_moveTo 63 = .ok (.iinc 4 (-1), 3) := by decide +kernel
theorem dX2_moveTo_66 : decode cX2_moveTo 66 = .ok (.goto (-25), 3) := by decide +kernel
theorem dX2_moveTo_69 : decode cX2_moveTo 69 = .ok (.aload_n 0, 1) := by decide +kernel
theorem dX2_moveTo_70 : decode cX2_moveTo 70 = .ok (.getfield 9, 3) := by decide +kernel
theorem dX2_moveTo_73 : decode cX2_moveTo 73 = .ok (.iload_n 2, 1) := by decide +kernel
theorem dX2_moveTo_74 : decode cX2_moveTo 74 = .ok (.iload_n 3, 1) := by decide +kernel
theorem dX2_moveTo_75 : decode cX2_moveTo 75 = .ok (.iastore, 1) := by decide +kernel
theorem dX2_moveTo_76 : decode cX2_moveTo 76 = .ok (.return_, 1) := by decide +kernel
theorem dX2_removeAll_0 : decode cX2_removeAll 0 = .ok (.aload_n 0, 1) := by decide +kernel
theorem dX2_removeAll_1 : decode cX2_removeAll 1 = .ok (.iconst 0, 1) := by decide +kernel
theorem dX2_removeAll_2 : decode cX2_removeAll 2 = .ok (.putfield 15, 3) := by decide +kernel
theorem dX2_removeAll_5 : decode cX2_removeAll 5 = .ok (.return_, 1) := by decide +kernel
theorem dX2_copyFrom_0 : decode cX2_copyFrom 0 = .ok (.aload_n 1, 1) := by decide +kernel
theorem dX2_copyFrom_1 : decode cX2_copyFrom 1 = .ok (.getfield 9, 3) := by decide +kernel
theorem dX2_copyFrom_4 : decode cX2_copyFrom 4 = .ok (.iconst 0, 1) := by decide +kernel
theorem dX2_copyFrom_5 : decode cX2_copyFrom 5 = .ok (.aload_n 0, 1) := by decide +kernel
theorem dX2_copyFrom_6 : decode cX2_copyFrom 6 = .ok (.getfield 9, 3) := by decide +kernel
theorem dX2_copyFrom_9 : decode cX2_copyFrom 9 = .ok (.iconst 0, 1) := by decide +kernel
theorem dX2_copyFrom_10 : decode cX2_copyFrom 10 = .ok (.aload_n 1, 1) := by decide +kernel
theorem dX2_copyFrom_11 : decode cX2_copyFrom 11 = .ok (.getfield 15, 3) := by decide +kernel
theorem dX2_copyFrom_14 : decode cX2_copyFrom 14 = .ok (.invokestatic 23, 3) := by decide +kernel
theorem dX2_copyFrom_17 : decode cX2_copyFrom 17 = .ok (.aload_n 0, 1) := by decide +kernel
theorem dX2_copyFrom_18 : decode cX2_copyFrom 18 = .ok (.aload_n 1, 1) := by decide +kernel
theorem dX2_copyFrom_19 : decode cX2_copyFrom 19 = .ok (.getfield 15, 3) := by decide +kernel
theorem dX2_copyFrom_22 : decode cX2_copyFrom 22 = .ok (.putfield 15, 3) := by decide +kernel
theorem dX2_copyFrom_25 : decode cX2_copyFrom 25 = .ok (.return_, 1) := by decide +kernel
theorem dX2_writtenLength_0 : decode cX2_writtenLength 0 = .ok (.iconst 0, 1) := by decide +kernel
theorem dX2_writtenLength_1 : decode cX2_writtenLength 1 = .ok (.istore_n 1, 1) := by decide +kernel
theorem dX2_writtenLength_2 : decode cX2_writtenLength 2 = .ok (.iconst 0, 1) := by decide +kernel
theorem dX2_writtenLength_3 : decode cX2_writtenLength 3 = .ok (.istore_n 2, 1) := by decide +kernel
theorem dX2_writtenLength_4 : decode cX2_writtenLength 4 = .ok (.iload_n 2, 1) := by decide +kernel
theorem dX2_writtenLength_5 : decode cX2_writtenLength 5 = .ok (.aload_n 0, 1) := by decide +kernel
theorem dX2_writtenLength_6 : decode cX2_writtenLength 6 = .ok (.getfield 15, 3) := by decide +kernel
theorem dX2_writtenLength_9 : decode cX2_writtenLength 9 = .ok (.if_icmp .ge 17, 3) := by decide +kernel
theorem dX2_writtenLength_12 : decode cX2_writtenLength 12 = .ok (.iload_n 1, 1) := by decide +kernel
theorem dX2_writtenLength_13 : decode cX2_writtenLength 13 = .ok (.aload_n 0, 1) := by decide +kernel
theorem dX2_writtenLength_14 : decode cX2_writtenLength 14 = .ok (.iload_n 2, 1) := by decide +kernel
theorem dX2_writtenLength_15 : decode cX2_writtenLength 15 = .ok (.invokevirtual 29, 3) := by decide +kernel
theorem dX2_writtenLength_18 : decode cX2_writtenLength 18 = .ok (.iadd, 1) := by decide +kernel
theorem dX2_writtenLength_19 : decode cX2_writtenLength 19 = .ok (.istore_n 1, 1) := by decide +kernel
theorem dX2_writtenLength_20 : decode cX2_writtenLength 20 = .ok (.iinc 2 1, 3) := by decide +kernel
theorem dX2_writtenLength_23 : decode cX2_writtenLength 23 = .ok (.goto (-19), 3) := by decide +kernel
theorem dX2_writtenLength_26 : decode cX2_writtenLength 26 = .ok (.iload_n 1, 1) := by decide +kernel
theorem dX2_writtenLength_27 : decode cX2_writtenLength 27 = .ok (.ireturn, 1) := by decide +kernel
theorem dX2_writtenByte_0 : decode cX2_writtenByte 0 = .ok (.iload_n 1, 1) := by decide +kernel
theorem dX2_writtenByte_1 : decode cX2_writtenByte 1 = .ok (.istore_n 2, 1) := by decide +kernel
theorem dX2_writtenByte_2 : decode cX2_writtenByte 2 = .ok (.iconst 0, 1) := by decide +kernel
theorem dX2_writtenByte_3 : decode cX2_writtenByte 3 = .ok (.istore_n 3, 1) := by decide +kernel
theorem dX2_writtenByte_4 : decode cX2_writtenByte 4 = .ok (.iload_n 3, 1) := by decide +kernel
theorem dX2_writtenByte_5 : decode cX2_writtenByte 5 = .ok (.aload_n 0, 1) := by decide +kernel
theorem dX2_writtenByte_6 : decode cX2_writtenByte 6 = .ok (.getfield 15, 3) := by decide +kernel
theorem dX2_writtenByte_9 : decode cX2_writtenByte 9 = .ok (.if_icmp .ge 33, 3) := by decide +kernel
theorem dX2_writtenByte_12 : decode cX2_writtenByte 12 = .ok (.iload_n 2, 1) := by decide +kernel
theorem dX2_writtenByte_13 : decode cX2_writtenByte 13 = .ok (.aload_n 0, 1) := by decide +kernel
theorem dX2_writtenByte_14 : decode cX2_writtenByte 14 = .ok (.iload_n 3, 1) := by decide +kernel
theorem dX2_writtenByte_15 : decode cX2_writtenByte 15 = .ok (.invokevirtual 29, 3) := by decide +kernel
theorem dX2_writtenByte_18 : decode cX2_writtenByte 18 = .ok (.if_icmp .ge 10, 3) := by decide +kernel
theorem dX2_writtenByte_21 : decode cX2_writtenByte 21 = .ok (.aload_n 0, 1) := by decide +kernel
theorem dX2_writtenByte_22 : decode cX2_writtenByte 22 = .ok (.iload_n 3, 1) := by decide +kernel
theorem dX2_writtenByte_23 : decode cX2_writtenByte 23 = .ok (.iload_n 2, 1) := by decide +kernel
theorem dX2_writtenByte_24 : decode cX2_writtenByte 24 = .ok (.invokevirtual 33, 3) := by decide +kernel
theorem dX2_writtenByte_27 : decode cX2_writtenByte 27 = .ok (.ireturn, 1) := by decide +kernel
theorem dX2_writtenByte_28 : decode cX2_writtenByte 28 = .ok (.iload_n 2, 1) := by decide +kernel
theorem dX2_writtenByte_29 : decode cX2_writtenByte 29 = .ok (.aload_n 0, 1) := by decide +kernel
theorem dX2_writtenByte_30 : decode cX2_writtenByte 30 = .ok (.iload_n 3, 1) := by decide +kernel
theorem dX2_writtenByte_31 : decode cX2_writtenByte 31 = .ok (.invokevirtual 29, 3) := by decide +kernel
theorem dX2_writtenByte_34 : decode cX2_writtenByte 34 = .ok (.isub, 1) := by decide +kernel
theorem dX2_writtenByte_35 : decode cX2_writtenByte 35 = .ok (.istore_n 2, 1) := by decide +kernel
theorem dX2_writtenByte_36 : decode cX2_writtenByte 36 = .ok (.iinc 3 1, 3) := by decide +kernel
theorem dX2_writtenByte_39 : decode cX2_writtenByte 39 = .ok (.goto (-35), 3) := by decide +kernel
theorem dX2_writtenByte_42 : decode cX2_writtenByte 42 = .ok (.bipush (-5), 2) := by decide +kernel
theorem dX2_writtenByte_44 : decode cX2_writtenByte 44 = .ok (.ireturn, 1) := by decide +kernel
theorem dX2_lengthAt_0 : decode cX2_lengthAt 0 = .ok (.aload_n 0, 1) := by decide +kernel
theorem dX2_lengthAt_1 : decode cX2_lengthAt 1 = .ok (.iload_n 1, 1) := by decide +kernel
theorem dX2_lengthAt_2 : decode cX2_lengthAt 2 = .ok (.invokevirtual 37, 3) := by decide +kernel
theorem dX2_lengthAt_5 : decode cX2_lengthAt 5 = .ok (.iconst 1, 1) := by decide +kernel
theorem dX2_lengthAt_6 : decode cX2_lengthAt 6 = .ok (.if_icmp .ne 7, 3) := by decide +kernel
theorem dX2_lengthAt_9 : decode cX2_lengthAt 9 = .ok (.iconst 4, 1) := by decide +kernel
theorem dX2_lengthAt_10 : decode cX2_lengthAt 10 = .ok (.goto 4, 3) := by decide +kernel
theorem dX2_lengthAt_13 : decode cX2_lengthAt 13 = .ok (.iconst 5, 1) := by decide +kernel
theorem dX2_lengthAt_14 : decode cX2_lengthAt 14 = .ok (.ireturn, 1) := by decide +kernel
theorem dX2_byteAt_0 : decode cX2_byteAt 0 = .ok (.aload_n 0, 1) := by decide +kernel
theorem dX2_byteAt_1 : decode cX2_byteAt 1 = .ok (.iload_n 1, 1) := by decide +kernel
theorem dX2_byteAt_2 : decode cX2_byteAt 2 = .ok (.invokevirtual 37, 3) := by decide +kernel
theorem dX2_byteAt_5 : decode cX2_byteAt 5 = .ok (.istore_n 3, 1) := by decide +kernel
theorem dX2_byteAt_6 : decode cX2_byteAt 6 = .ok (.iload_n 3, 1) := by decide +kernel
theorem dX2_byteAt_7 : decode cX2_byteAt 7 = .ok (.iconst 3, 1) := by decide +kernel
theorem dX2_byteAt_8 : decode cX2_byteAt 8 = .ok (.if_icmp .ne 9, 3) := by decide +kernel
theorem dX2_byteAt_11 : decode cX2_byteAt 11 = .ok (.iload_n 2, 1) := by decide +kernel
theorem dX2_byteAt_12 : decode cX2_byteAt 12 = .ok (.iconst 1, 1) := by decide +kernel
theorem dX2_byteAt_13 : decode cX2_byteAt 13 = .ok (.isub, 1) := by decide +kernel
theorem dX2_byteAt_14 : decode cX2_byteAt 14 = .ok (.goto 4, 3) := by decide +kernel
theorem dX2_byteAt_17 : decode cX2_byteAt 17 = .ok (.iload_n 2, 1) := by decide +kernel
theorem dX2_byteAt_18 : decode cX2_byteAt 18 = .ok (.istore 4, 2) := by decide +kernel
theorem dX2_byteAt_20 : decode cX2_byteAt 20 = .ok (.iload 4, 2) := by decide +kernel
theorem dX2_byteAt_22 : decode cX2_byteAt 22 = .ok (.iconst 2, 1) := by decide +kernel
theorem dX2_byteAt_23 : decode cX2_byteAt 23 = .ok (.if_icmp .lt 16, 3) := by decide +kernel
theorem dX2_byteAt_26 : decode cX2_byteAt 26 = .ok (.iload_n 3, 1) := by decide +kernel
theorem dX2_byteAt_27 : decode cX2_byteAt 27 = .ok (.iconst 1, 1) := by decide +kernel
theorem dX2_byteAt_28 : decode cX2_byteAt 28 = .ok (.if_icmp .eq 8, 3) := by decide +kernel
theorem dX2_byteAt_31 : decode cX2_byteAt 31 = .ok (.iload_n 3, 1) := by decide +kernel
theorem dX2_byteAt_32 : decode cX2_byteAt 32 = .ok (.iconst 3, 1) := by decide +kernel
theorem dX2_byteAt_33 : decode cX2_byteAt 33 = .ok (.if_icmp .ne 6, 3) := by decide +kernel
theorem dX2_byteAt_36 : decode cX2_byteAt 36 = .ok (.iinc 4 1, 3) := by decide +kernel
theorem dX2_byteAt_39 : decode cX2_byteAt 39 = .ok (.iload 4, 2) := by decide +kernel
theorem dX2_byteAt_41 : decode cX2_byteAt 41 = .ok (.tableswitch 71 (-1) 3 #[35, 38, 47, 50, 62], 35) := by decide +kernel
theorem dX2_byteAt_76 : decode cX2_byteAt 76 = .ok (.bipush 42, 2) := by decide +kernel
theorem dX2_byteAt_78 : decode cX2_byteAt 78 = .ok (.ireturn, 1) := by decide +kernel
theorem dX2_byteAt_79 : decode cX2_byteAt 79 = .ok (.bipush 97, 2) := by decide +kernel
theorem dX2_byteAt_81 : decode cX2_byteAt 81 = .ok (.aload_n 0, 1) := by decide +kernel
theorem dX2_byteAt_82 : decode cX2_byteAt 82 = .ok (.iload_n 1, 1) := by decide +kernel
theorem dX2_byteAt_83 : decode cX2_byteAt 83 = .ok (.invokevirtual 40, 3) := by decide +kernel
theorem dX2_byteAt_86 : decode cX2_byteAt 86 = .ok (.iadd, 1) := by decide +kernel
theorem dX2_byteAt_87 : decode cX2_byteAt 87 = .ok (.ireturn, 1) := by decide +kernel
theorem dX2_byteAt_88 : decode cX2_byteAt 88 = .ok (.bipush 61, 2) := by decide +kernel
theorem dX2_byteAt_90 : decode cX2_byteAt 90 = .ok (.ireturn, 1) := by decide +kernel
theorem dX2_byteAt_91 : decode cX2_byteAt 91 = .ok (.iload_n 3, 1) := by decide +kernel
theorem dX2_byteAt_92 : decode cX2_byteAt 92 = .ok (.ifCond .ne 8, 3) := by decide +kernel
theorem dX2_byteAt_95 : decode cX2_byteAt 95 = .ok (.bipush 38, 2) := by decide +kernel
theorem dX2_byteAt_97 : decode cX2_byteAt 97 = .ok (.goto 5, 3) := by decide +kernel
theorem dX2_byteAt_100 : decode cX2_byteAt 100 = .ok (.bipush 42, 2) := by decide +kernel
theorem dX2_byteAt_102 : decode cX2_byteAt 102 = .ok (.ireturn, 1) := by decide +kernel
theorem dX2_byteAt_103 : decode cX2_byteAt 103 = .ok (.bipush 97, 2) := by decide +kernel
theorem dX2_byteAt_105 : decode cX2_byteAt 105 = .ok (.aload_n 0, 1) := by decide +kernel
theorem dX2_byteAt_106 : decode cX2_byteAt 106 = .ok (.iload_n 1, 1) := by decide +kernel
theorem dX2_byteAt_107 : decode cX2_byteAt 107 = .ok (.invokevirtual 43, 3) := by decide +kernel
theorem dX2_byteAt_110 : decode cX2_byteAt 110 = .ok (.iadd, 1) := by decide +kernel
theorem dX2_byteAt_111 : decode cX2_byteAt 111 = .ok (.ireturn, 1) := by decide +kernel
theorem dX2_byteAt_112 : decode cX2_byteAt 112 = .ok (.bipush 59, 2) := by decide +kernel
theorem dX2_byteAt_114 : decode cX2_byteAt 114 = .ok (.ireturn, 1) := by decide +kernel
theorem dX3_init_0 : decode cX3_init 0 = .ok (.aload_n 0, 1) := by decide +kernel
theorem dX3_init_1 : decode cX3_init 1 = .ok (.invokespecial 3, 3) := by decide +kernel
theorem dX3_init_4 : decode cX3_init 4 = .ok (.aload_n 0, 1) := by decide +kernel
theorem dX3_init_5 : decode cX3_init 5 = .ok (.bipush 10, 2) := by decide +kernel
theorem dX3_init_7 : decode cX3_init 7 = .ok (.newarray .int, 2) := by decide +kernel
theorem dX3_init_9 : decode cX3_init 9 = .ok (.putfield 9, 3) := by decide +kernel
theorem dX3_init_12 : decode cX3_init 12 = .ok (.aload_n 0, 1) := by decide +kernel
theorem dX3_init_13 : decode cX3_init 13 = .ok (.bipush 10, 2) := by decide +kernel
theorem dX3_init_15 : decode cX3_init 15 = .ok (.newarray .int, 2) := by decide +kernel
theorem dX3_init_17 : decode cX3_init 17 = .ok (.putfield 15, 3) := by decide +kernel
theorem dX3_init_20 : decode cX3_init 20 = .ok (.return_, 1) := by decide +kernel
theorem dX3_endOf_0 : decode cX3_endOf 0 = .ok (.aload_n 0, 1) := by decide +kernel
theorem dX3_endOf_1 : decode cX3_endOf 1 = .ok (.getfield 9, 3) := by decide +kernel
theorem dX3_endOf_4 : decode cX3_endOf 4 = .ok (.iload_n 1, 1) := by decide +kernel
theorem dX3_endOf_5 : decode cX3_endOf 5 = .ok (.iaload, 1) := by decide +kernel
theorem dX3_endOf_6 : decode cX3_endOf 6 = .ok (.ireturn, 1) := by decide +kernel
theorem dX3_everOf_0 : decode cX3_everOf 0 = .ok (.aload_n 0, 1) := by decide +kernel
theorem dX3_everOf_1 : decode cX3_everOf 1 = .ok (.getfield 15, 3) := by decide +kernel
theorem dX3_everOf_4 : decode cX3_everOf 4 = .ok (.iload_n 1, 1) := by decide +kernel
theorem dX3_everOf_5 : decode cX3_everOf 5 = .ok (.iaload, 1) := by decide +kernel
theorem dX3_everOf_6 : decode cX3_everOf 6 = .ok (.ireturn, 1) := by decide +kernel
theorem dX3_missed_0 : decode cX3_missed 0 = .ok (.aload_n 0, 1) := by decide +kernel
theorem dX3_missed_1 : decode cX3_missed 1 = .ok (.getfield 18, 3) := by decide +kernel
theorem dX3_missed_4 : decode cX3_missed 4 = .ok (.ireturn, 1) := by decide +kernel
theorem dX3_play_0 : decode cX3_play 0 = .ok (.aload_n 0, 1) := by decide +kernel
theorem dX3_play_1 : decode cX3_play 1 = .ok (.getfield 9, 3) := by decide +kernel
theorem dX3_play_4 : decode cX3_play 4 = .ok (.iconst (-1), 1) := by decide +kernel
theorem dX3_play_5 : decode cX3_play 5 = .ok (.invokestatic 22, 3) := by decide +kernel
theorem dX3_play_8 : decode cX3_play 8 = .ok (.aload_n 0, 1) := by decide +kernel
theorem dX3_play_9 : decode cX3_play 9 = .ok (.getfield 15, 3) := by decide +kernel
theorem dX3_play_12 : decode cX3_play 12 = .ok (.iconst 0, 1) := by decide +kernel
theorem dX3_play_13 : decode cX3_play 13 = .ok (.invokestatic 22, 3) := by decide +kernel
theorem dX3_play_16 : decode cX3_play 16 = .ok (.aload_n 0, 1) := by decide +kernel
theorem dX3_play_17 : decode cX3_play 17 = .ok (.iconst 0, 1) := by decide +kernel
theorem dX3_play_18 : decode cX3_play 18 = .ok (.putfield 18, 3) := by decide +kernel
theorem dX3_play_21 : decode cX3_play 21 = .ok (.iconst 0, 1) := by decide +kernel
theorem dX3_play_22 : decode cX3_play 22 = .ok (.istore_n 3, 1) := by decide +kernel
theorem dX3_play_23 : decode cX3_play 23 = .ok (.iload_n 3, 1) := by decide +kernel
theorem dX3_play_24 : decode cX3_play 24 = .ok (.iload_n 2, 1) := by decide +kernel
theorem dX3_play_25 : decode cX3_play 25 = .ok (.if_icmp .ge 34, 3) := by decide +kernel
theorem dX3_play_28 : decode cX3_play 28 = .ok (.iconst 0, 1) := by decide +kernel
theorem dX3_play_29 : decode cX3_play 29 = .ok (.istore 4, 2) := by decide +kernel
theorem dX3_play_31 : decode cX3_play 31 = .ok (.iload 4, 2) := by decide +kernel
theorem dX3_play_33 : decode cX3_play 33 = .ok (.aload_n 1, 1) := by decide +kernel
theorem dX3_play_34 : decode cX3_play 34 = .ok (.invokevirtual 28, 3) := by decide +kernel
theorem dX3_play_37 : decode cX3_play 37 = .ok (.if_icmp .ge 16, 3) := by decide +kernel
theorem dX3_play_40 : decode cX3_play 40 = .ok (.aload_n 0, 1) := by decide +kernel
theorem dX3_play_41 : decode cX3_play 41 = .ok (.aload_n 1, 1) := by decide +kernel
theorem dX3_play_42 : decode cX3_play 42 = .ok (.iload 4, 2) := by decide +kernel
theorem dX3_play_44 : decode cX3_play 44 = .ok (.invokevirtual 34, 3) := by decide +kernel
theorem dX3_play_47 : decode cX3_play 47 = .ok (.iinc 4 1, 3) := by decide +kernel
theorem dX3_play_50 : decode cX3_play 50 = .ok (.goto (-19), 3) := by decide +kernel
theorem dX3_play_53 : decode cX3_play 53 = .ok (.iinc 3 1, 3) := by decide +kernel
theorem dX3_play_56 : decode cX3_play 56 = .ok (.goto (-33), 3) := by decide +kernel
theorem dX3_play_59 : decode cX3_play 59 = .ok (.return_, 1) := by decide +kernel
theorem dX3_carryOut_0 : decode cX3_carryOut 0 = .ok (.aload_n 1, 1) := by decide +kernel
theorem dX3_carryOut_1 : decode cX3_carryOut 1 = .ok (.iload_n 2, 1) := by decide +kernel
theorem dX3_carryOut_2 : decode cX3_carryOut 2 = .ok (.invokevirtual 38, 3) := by decide +kernel
theorem dX3_carryOut_5 : decode cX3_carryOut 5 = .ok (.istore_n 3, 1) := by decide +kernel
theorem dX3_carryOut_6 : decode cX3_carryOut 6 = .ok (.aload_n 1, 1) := by decide +kernel
theorem dX3_carryOut_7 : decode cX3_carryOut 7 = .ok (.iload_n 2, 1) := by decide +kernel
theorem dX3_carryOut_8 : decode cX3_carryOut 8 = .ok (.invokevirtual 42, 3) := by decide +kernel
theorem dX3_carryOut_11 : decode cX3_carryOut 11 = .ok (.istore 4, 2) := by decide +kernel
theorem dX3_carryOut_13 : decode cX3_carryOut 13 = .ok (.aload_n 1, 1) := by decide +kernel
theorem dX3_carryOut_14 : decode cX3_carryOut 14 = .ok (.iload_n 2, 1) := by decide +kernel
theorem dX3_carryOut_15 : decode cX3_carryOut 15 = .ok (.invokevirtual 45, 3) := by decide +kernel
theorem dX3_carryOut_18 : decode cX3_carryOut 18 = .ok (.tableswitch 66 0 2 #[26, 36, 51], 26) := by decide +kernel
theorem dX3_carryOut_44 : decode cX3_carryOut 44 = .ok (.aload_n 0, 1) := by decide +kernel
theorem dX3_carryOut_45 : decode cX3_carryOut 45 = .ok (.iload_n 3, 1) := by decide +kernel
theorem dX3_carryOut_46 : decode cX3_carryOut 46 = .ok (.iload 4, 2) := by decide +kernel
theorem dX3_carryOut_48 : decode cX3_carryOut 48 = .ok (.invokevirtual 48, 3) := by decide +kernel
theorem dX3_carryOut_51 : decode cX3_carryOut 51 = .ok (.goto 50, 3) := by decide +kernel
theorem dX3_carryOut_54 : decode cX3_carryOut 54 = .ok (.aload_n 0, 1) := by decide +kernel
theorem dX3_carryOut_55 : decode cX3_carryOut 55 = .ok (.iload_n 3, 1) := by decide +kernel
theorem dX3_carryOut_56 : decode cX3_carryOut 56 = .ok (.aload_n 0, 1) := by decide +kernel
theorem dX3_carryOut_57 : decode cX3_carryOut 57 = .ok (.getfield 9, 3) := by decide +kernel
theorem dX3_carryOut_60 : decode cX3_carryOut 60 = .ok (.iload 4, 2) := by decide +kernel
theorem dX3_carryOut_62 : decode cX3_carryOut 62 = .ok (.iaload, 1) := by decide +kernel
theorem dX3_carryOut_63 : decode cX3_carryOut 63 = .ok (.invokevirtual 48, 3) := by decide +kernel
theorem dX3_carryOut_66 : decode cX3_carryOut 66 = .ok (.goto 35, 3) := by decide +kernel
theorem dX3_carryOut_69 : decode cX3_carryOut 69 = .ok (.aload_n 0, 1) := by decide +kernel
theorem dX3_carryOut_70 : decode cX3_carryOut 70 = .ok (.iload_n 3, 1) := by decide +kernel
theorem dX3_carryOut_71 : decode cX3_carryOut 71 = .ok (.aload_n 0, 1) := by decide +kernel
theorem dX3_carryOut_72 : decode cX3_carryOut 72 = .ok (.getfield 9, 3) := by decide +kernel
theorem dX3_carryOut_75 : decode cX3_carryOut 75 = .ok (.iload 4, 2) := by decide +kernel
theorem dX3_carryOut_77 : decode cX3_carryOut 77 = .ok (.iaload, 1) := by decide +kernel
theorem dX3_carryOut_78 : decode cX3_carryOut 78 = .ok (.invokevirtual 52, 3) := by decide +kernel
theorem dX3_carryOut_81 : decode cX3_carryOut 81 = .ok (.goto 20, 3) := by decide +kernel
theorem dX3_carryOut_84 : decode cX3_carryOut 84 = .ok (.aload_n 0, 1) := by decide +kernel
theorem dX3_carryOut_85 : decode cX3_carryOut 85 = .ok (.aload_n 0, 1) := by decide +kernel
theorem dX3_carryOut_86 : decode cX3_carryOut 86 = .ok (.getfield 9, 3) := by decide +kernel
theorem dX3_carryOut_89 : decode cX3_carryOut 89 = .ok (.iload_n 3, 1) := by decide +kernel
theorem dX3_carryOut_90 : decode cX3_carryOut 90 = .ok (.iaload, 1) := by decide +kernel
theorem dX3_carryOut_91 : decode cX3_carryOut 91 = .ok (.aload_n 0, 1) := by decide +kernel
theorem dX3_carryOut_92 : decode cX3_carryOut 92 = .ok (.getfield 9, 3) := by decide +kernel
theorem dX3_carryOut_95 : decode cX3_carryOut 95 = .ok (.iload 4, 2) := by decide +kernel
theorem dX3_carryOut_97 : decode cX3_carryOut 97 = .ok (.iaload, 1) := by decide +kernel
theorem dX3_carryOut_98 : decode cX3_carryOut 98 = .ok (.invokevirtual 55, 3) := by decide +kernel
theorem dX3_carryOut_101 : decode cX3_carryOut 101 = .ok (.return_, 1) := by decide +kernel
theorem dX3_load_0 : decode cX3_load 0 = .ok (.iload_n 2, 1) := by decide +kernel
theorem dX3_load_1 : decode cX3_load 1 = .ok (.iconst (-1), 1) := by decide +kernel
theorem dX3_load_2 : decode cX3_load 2 = .ok (.if_icmp .ne 16, 3) := by decide +kernel
theorem dX3_load_5 : decode cX3_load 5 = .ok (.aload_n 0, 1) := by decide +kernel
theorem dX3_load_6 : decode cX3_load 6 = .ok (.dup, 1) := by decide +kernel
theorem dX3_load_7 : decode cX3_load 7 = .ok (.getfield 18, 3) := by decide +kernel
theorem dX3_load_10 : decode cX3_load 10 = .ok (.iconst 1, 1) := by decide +kernel
theorem dX3_load_11 : decode cX3_load 11 = .ok (.iadd, 1) := by decide +kernel
theorem dX3_load_12 : decode cX3_load 12 = .ok (.putfield 18, 3) := by decide +kernel
theorem dX3_load_15 : decode cX3_load 15 = .ok (.goto 14, 3) := by decide +kernel
theorem dX3_load_18 : decode cX3_load 18 = .ok (.aload_n 0, 1) := by decide +kernel
theorem dX3_load_19 : decode cX3_load 19 = .ok (.iload_n 1, 1) := by decide +kernel
theorem dX3_load_20 : decode cX3_load 20 = .ok (.aload_n 0, 1) := by decide +kernel
theorem dX3_load_21 : decode cX3_load 21 = .ok (.getfield 9, 3) := by decide +kernel
theorem dX3_load_24 : decode cX3_load 24 = .ok (.iload_n 2, 1) := by decide +kernel
theorem dX3_load_25 : decode cX3_load 25 = .ok (.iaload, 1) := by decide +kernel
theorem dX3_load_26 : decode cX3_load 26 = .ok (.invokevirtual 48, 3) := by decide +kernel
theorem dX3_load_29 : decode cX3_load 29 = .ok (.return_, 1) := by decide +kernel
theorem dX3_store_0 : decode cX3_store 0 = .ok (.iload_n 1, 1) := by decide +kernel
theorem dX3_store_1 : decode cX3_store 1 = .ok (.iconst (-1), 1) := by decide +kernel
theorem dX3_store_2 : decode cX3_store 2 = .ok (.if_icmp .ne 16, 3) := by decide +kernel
theorem dX3_store_5 : decode cX3_store 5 = .ok (.aload_n 0, 1) := by decide +kernel
theorem dX3_store_6 : decode cX3_store 6 = .ok (.dup, 1) := by decide +kernel
theorem dX3_store_7 : decode cX3_store 7 = .ok (.getfield 18, 3) := by decide +kernel
theorem dX3_store_10 : decode cX3_store 10 = .ok (.iconst 1, 1) := by decide +kernel
theorem dX3_store_11 : decode cX3_store 11 = .ok (.iadd, 1) := by decide +kernel
theorem dX3_store_12 : decode cX3_store 12 = .ok (.putfield 18, 3) := by decide +kernel
theorem dX3_store_15 : decode cX3_store 15 = .ok (.goto 9, 3) := by decide +kernel
theorem dX3_store_18 : decode cX3_store 18 = .ok (.aload_n 0, 1) := by decide +kernel
theorem dX3_store_19 : decode cX3_store 19 = .ok (.iload_n 1, 1) := by decide +kernel
theorem dX3_store_20 : decode cX3_store 20 = .ok (.iload_n 2, 1) := by decide +kernel
theorem dX3_store_21 : decode cX3_store 21 = .ok (.invokevirtual 48, 3) := by decide +kernel
theorem dX3_store_24 : decode cX3_store 24 = .ok (.return_, 1) := by decide +kernel
theorem dX3_point_0 : decode cX3_point 0 = .ok (.aload_n 0, 1) := by decide +kernel
theorem dX3_point_1 : decode cX3_point 1 = .ok (.getfield 9, 3) := by decide +kernel
theorem dX3_point_4 : decode cX3_point 4 = .ok (.iload_n 1, 1) := by decide +kernel
theorem dX3_point_5 : decode cX3_point 5 = .ok (.iload_n 2, 1) := by decide +kernel
theorem dX3_point_6 : decode cX3_point 6 = .ok (.iastore, 1) := by decide +kernel
theorem dX3_point_7 : decode cX3_point 7 = .ok (.iload_n 2, 1) := by decide +kernel
theorem dX3_point_8 : decode cX3_point 8 = .ok (.iconst (-1), 1) := by decide +kernel
theorem dX3_point_9 : decode cX3_point 9 = .ok (.if_icmp .eq 16, 3) := by decide +kernel
theorem dX3_point_12 : decode cX3_point 12 = .ok (.aload_n 0, 1) := by decide +kernel
theorem dX3_point_13 : decode cX3_point 13 = .ok (.getfield 15, 3) := by decide +kernel
theorem dX3_point_16 : decode cX3_point 16 = .ok (.iload_n 1, 1) := by decide +kernel
theorem dX3_point_17 : decode cX3_point 17 = .ok (.dup2, 1) := by decide +kernel
theorem dX3_point_18 : decode cX3_point 18 = .ok (.iaload, 1) := by decide +kernel
theorem dX3_point_19 : decode cX3_point 19 = .ok (.iload_n 2, 1) := by decide +kernel
theorem dX3_point_20 : decode cX3_point 20 = .ok (.invokestatic 58, 3) := by decide +kernel
theorem dX3_point_23 : decode cX3_point 23 = .ok (.ior, 1) := by decide +kernel
theorem dX3_point_24 : decode cX3_point 24 = .ok (.iastore, 1) := by decide +kernel
theorem dX3_point_25 : decode cX3_point 25 = .ok (.return_, 1) := by decide +kernel
theorem dX4_init_0 : decode cX4_init 0 = .ok (.aload_n 0, 1) := by decide +kernel
theorem dX4_init_1 : decode cX4_init 1 = .ok (.invokespecial 3, 3) := by decide +kernel
theorem dX4_init_4 : decode cX4_init 4 = .ok (.aload_n 0, 1) := by decide +kernel
theorem dX4_init_5 : decode cX4_init 5 = .ok (.iconst 5, 1) := by decide +kernel
theorem dX4_init_6 : decode cX4_init 6 = .ok (.anewarray 9, 3) := by decide +kernel
theorem dX4_init_9 : decode cX4_init 9 = .ok (.putfield 11, 3) := by decide +kernel
theorem dX4_init_12 : decode cX4_init 12 = .ok (.iconst 0, 1) := by decide +kernel
theorem dX4_init_13 : decode cX4_init 13 = .ok (.istore_n 1, 1) := by decide +kernel
theorem dX4_init_14 : decode cX4_init 14 = .ok (.iload_n 1, 1) := by decide +kernel
theorem dX4_init_15 : decode cX4_init 15 = .ok (.iconst 5, 1) := by decide +kernel
theorem dX4_init_16 : decode cX4_init 16 = .ok (.if_icmp .ge 22, 3) := by decide +kernel
theorem dX4_init_19 : decode cX4_init 19 = .ok (.aload_n 0, 1) := by decide +kernel
theorem dX4_init_20 : decode cX4_init 20 = .ok (.getfield 11, 3) := by decide +kernel
theorem dX4_init_23 : decode cX4_init 23 = .ok (.iload_n 1, 1) := by decide +kernel
theorem dX4_init_24 : decode cX4_init 24 = .ok (.new 9, 3) := by decide +kernel
theorem dX4_init_27 : decode cX4_init 27 = .ok (.dup, 1) := by decide +kernel
theorem dX4_init_28 : decode cX4_init 28 = .ok (.invokespecial 17, 3) := by decide +kernel
theorem dX4_init_31 : decode cX4_init 31 = .ok (.aastore, 1) := by decide +kernel
theorem dX4_init_32 : decode cX4_init 32 = .ok (.iinc 1 1, 3) := by decide +kernel
theorem dX4_init_35 : decode cX4_init 35 = .ok (.goto (-21), 3) := by decide +kernel
theorem dX4_init_38 : decode cX4_init 38 = .ok (.return_, 1) := by decide +kernel
theorem dX4_size_0 : decode cX4_size 0 = .ok (.aload_n 0, 1) := by decide +kernel
theorem dX4_size_1 : decode cX4_size 1 = .ok (.getfield 18, 3) := by decide +kernel
theorem dX4_size_4 : decode cX4_size 4 = .ok (.ireturn, 1) := by decide +kernel
theorem dX4_keep_0 : decode cX4_keep 0 = .ok (.aload_n 0, 1) := by decide +kernel
theorem dX4_keep_1 : decode cX4_keep 1 = .ok (.getfield 18, 3) := by decide +kernel
theorem dX4_keep_4 : decode cX4_keep 4 = .ok (.iconst 5, 1) := by decide +kernel
theorem dX4_keep_5 : decode cX4_keep 5 = .ok (.if_icmp .ne 7, 3) := by decide +kernel
theorem dX4_keep_8 : decode cX4_keep 8 = .ok (.aload_n 0, 1) := by decide +kernel
theorem dX4_keep_9 : decode cX4_keep 9 = .ok (.invokevirtual 22, 3) := by decide +kernel
theorem dX4_keep_12 : decode cX4_keep 12 = .ok (.aload_n 0, 1) := by decide +kernel
theorem dX4_keep_13 : decode cX4_keep 13 = .ok (.getfield 11, 3) := by decide +kernel
theorem dX4_keep_16 : decode cX4_keep 16 = .ok (.aload_n 0, 1) := by decide +kernel
theorem dX4_keep_17 : decode cX4_keep 17 = .ok (.getfield 18, 3) := by decide +kernel
theorem dX4_keep_20 : decode cX4_keep 20 = .ok (.aaload, 1) := by decide +kernel
theorem dX4_keep_21 : decode cX4_keep 21 = .ok (.aload_n 1, 1) := by decide +kernel
theorem dX4_keep_22 : decode cX4_keep 22 = .ok (.invokevirtual 25, 3) := by decide +kernel
theorem dX4_keep_25 : decode cX4_keep 25 = .ok (.aload_n 0, 1) := by decide +kernel
theorem dX4_keep_26 : decode cX4_keep 26 = .ok (.dup, 1) := by decide +kernel
theorem dX4_keep_27 : decode cX4_keep 27 = .ok (.getfield 18, 3) := by decide +kernel
theorem dX4_keep_30 : decode cX4_keep 30 = .ok (.iconst 1, 1) := by decide +kernel
theorem dX4_keep_31 : decode cX4_keep 31 = .ok (.iadd, 1) := by decide +kernel
theorem dX4_keep_32 : decode cX4_keep 32 = .ok (.putfield 18, 3) := by decide +kernel
theorem dX4_keep_35 : decode cX4_keep 35 = .ok (.return_, 1) := by decide +kernel
theorem dX4_restore_0 : decode cX4_restore 0 = .ok (.aload_n 0, 1) := by decide +kernel
theorem dX4_restore_1 : decode cX4_restore 1 = .ok (.getfield 18, 3) := by decide +kernel
theorem dX4_restore_4 : decode cX4_restore 4 = .ok (.ifCond .le 26, 3) := by decide +kernel
theorem dX4_restore_7 : decode cX4_restore 7 = .ok (.aload_n 0, 1) := by decide +kernel
theorem dX4_restore_8 : decode cX4_restore 8 = .ok (.dup, 1) := by decide +kernel
theorem dX4_restore_9 : decode cX4_restore 9 = .ok (.getfield 18, 3) := by decide +kernel
theorem dX4_restore_12 : decode cX4_restore 12 = .ok (.iconst 1, 1) := by decide +kernel
theorem dX4_restore_13 : decode cX4_restore 13 = .ok (.isub, 1) := by decide +kernel
theorem dX4_restore_14 : decode cX4_restore 14 = .ok (.putfield 18, 3) := by decide +kernel
theorem dX4_restore_17 : decode cX4_restore 17 = .ok (.aload_n 1, 1) := by decide +kernel
theorem dX4_restore_18 : decode cX4_restore 18 = .ok (.aload_n 0, 1) := by decide +kernel
theorem dX4_restore_19 : decode cX4_restore 19 = .ok (.getfield 11, 3) := by decide +kernel
theorem dX4_restore_22 : decode cX4_restore 22 = .ok (.aload_n 0, 1) := by decide +kernel
theorem dX4_restore_23 : decode cX4_restore 23 = .ok (.getfield 18, 3) := by decide +kernel
theorem dX4_restore_26 : decode cX4_restore 26 = .ok (.aaload, 1) := by decide +kernel
theorem dX4_restore_27 : decode cX4_restore 27 = .ok (.invokevirtual 25, 3) := by decide +kernel
theorem dX4_restore_30 : decode cX4_restore 30 = .ok (.return_, 1) := by decide +kernel
theorem dX4_loseOldest_0 : decode cX4_loseOldest 0 = .ok (.aload_n 0, 1) := by decide +kernel
theorem dX4_loseOldest_1 : decode cX4_loseOldest 1 = .ok (.getfield 11, 3) := by decide +kernel
theorem dX4_loseOldest_4 : decode cX4_loseOldest 4 = .ok (.iconst 0, 1) := by decide +kernel
theorem dX4_loseOldest_5 : decode cX4_loseOldest 5 = .ok (.aaload, 1) := by decide +kernel
theorem dX4_loseOldest_6 : decode cX4_loseOldest 6 = .ok (.astore_n 1, 1) := by decide +kernel
theorem dX4_loseOldest_7 : decode cX4_loseOldest 7 = .ok (.iconst 1, 1) := by decide +kernel
theorem dX4_loseOldest_8 : decode cX4_loseOldest 8 = .ok (.istore_n 2, 1) := by decide +kernel
theorem dX4_loseOldest_9 : decode cX4_loseOldest 9 = .ok (.iload_n 2, 1) := by decide +kernel
theorem dX4_loseOldest_10 : decode cX4_loseOldest 10 = .ok (.iconst 5, 1) := by decide +kernel
theorem dX4_loseOldest_11 : decode cX4_loseOldest 11 = .ok (.if_icmp .ge 23, 3) := by decide +kernel
theorem dX4_loseOldest_14 : decode cX4_loseOldest 14 = .ok (.aload_n 0, 1) := by decide +kernel
theorem dX4_loseOldest_15 : decode cX4_loseOldest 15 = .ok (.getfield 11, 3) := by decide +kernel
theorem dX4_loseOldest_18 : decode cX4_loseOldest 18 = .ok (.iload_n 2, 1) := by decide +kernel
theorem dX4_loseOldest_19 : decode cX4_loseOldest 19 = .ok (.iconst 1, 1) := by decide +kernel
theorem dX4_loseOldest_20 : decode cX4_loseOldest 20 = .ok (.isub, 1) := by decide +kernel
theorem dX4_loseOldest_21 : decode cX4_loseOldest 21 = .ok (.aload_n 0, 1) := by decide +kernel
theorem dX4_loseOldest_22 : decode cX4_loseOldest 22 = .ok (.getfield 11, 3) := by decide +kernel
theorem dX4_loseOldest_25 : decode cX4_loseOldest 25 = .ok (.iload_n 2, 1) := by decide +kernel
theorem dX4_loseOldest_26 : decode cX4_loseOldest 26 = .ok (.aaload, 1) := by decide +kernel
theorem dX4_loseOldest_27 : decode cX4_loseOldest 27 = .ok (.aastore, 1) := by decide +kernel
theorem dX4_loseOldest_28 : decode cX4_loseOldest 28 = .ok (.iinc 2 1, 3) := by decide +kernel
theorem dX4_loseOldest_31 : decode cX4_loseOldest 31 = .ok (.goto (-22), 3) := by decide +kernel
theorem dX4_loseOldest_34 : decode cX4_loseOldest 34 = .ok (.aload_n 0, 1) := by decide +kernel
theorem dX4_loseOldest_35 : decode cX4_loseOldest 35 = .ok (.getfield 11, 3) := by decide +kernel
theorem dX4_loseOldest_38 : decode cX4_loseOldest 38 = .ok (.iconst 4, 1) := by decide +kernel
theorem dX4_loseOldest_39 : decode cX4_loseOldest 39 = .ok (.aload_n 1, 1) := by decide +kernel
theorem dX4_loseOldest_40 : decode cX4_loseOldest 40 = .ok (.aastore, 1) := by decide +kernel
theorem dX4_loseOldest_41 : decode cX4_loseOldest 41 = .ok (.aload_n 0, 1) := by decide +kernel
theorem dX4_loseOldest_42 : decode cX4_loseOldest 42 = .ok (.iconst 4, 1) := by decide +kernel
theorem dX4_loseOldest_43 : decode cX4_loseOldest 43 = .ok (.putfield 18, 3) := by decide +kernel
theorem dX4_loseOldest_46 : decode cX4_loseOldest 46 = .ok (.return_, 1) := by decide +kernel
theorem dX5_init_0 : decode cX5_init 0 = .ok (.aload_n 0, 1) := by decide +kernel
theorem dX5_init_1 : decode cX5_init 1 = .ok (.invokespecial 3, 3) := by decide +kernel
theorem dX5_init_4 : decode cX5_init 4 = .ok (.aload_n 0, 1) := by decide +kernel
theorem dX5_init_5 : decode cX5_init 5 = .ok (.bipush 120, 2) := by decide +kernel
theorem dX5_init_7 : decode cX5_init 7 = .ok (.newarray .int, 2) := by decide +kernel
theorem dX5_init_9 : decode cX5_init 9 = .ok (.putfield 9, 3) := by decide +kernel
theorem dX5_init_12 : decode cX5_init 12 = .ok (.aload_n 0, 1) := by decide +kernel
theorem dX5_init_13 : decode cX5_init 13 = .ok (.new 15, 3) := by decide +kernel
theorem dX5_init_16 : decode cX5_init 16 = .ok (.dup, 1) := by decide +kernel
theorem dX5_init_17 : decode cX5_init 17 = .ok (.invokespecial 17, 3) := by decide +kernel
theorem dX5_init_20 : decode cX5_init 20 = .ok (.putfield 18, 3) := by decide +kernel
theorem dX5_init_23 : decode cX5_init 23 = .ok (.return_, 1) := by decide +kernel
theorem dX5_length_0 : decode cX5_length 0 = .ok (.aload_n 0, 1) := by decide +kernel
theorem dX5_length_1 : decode cX5_length 1 = .ok (.getfield 22, 3) := by decide +kernel
theorem dX5_length_4 : decode cX5_length 4 = .ok (.ireturn, 1) := by decide +kernel
theorem dX5_parsed_0 : decode cX5_parsed 0 = .ok (.aload_n 0, 1) := by decide +kernel
theorem dX5_parsed_1 : decode cX5_parsed 1 = .ok (.getfield 18, 3) := by decide +kernel
theorem dX5_parsed_4 : decode cX5_parsed 4 = .ok (.areturn, 1) := by decide +kernel
theorem dX5_append_0 : decode cX5_append 0 = .ok (.aload_n 0, 1) := by decide +kernel
theorem dX5_append_1 : decode cX5_append 1 = .ok (.getfield 22, 3) := by decide +kernel
theorem dX5_append_4 : decode cX5_append 4 = .ok (.bipush 120, 2) := by decide +kernel
theorem dX5_append_6 : decode cX5_append 6 = .ok (.if_icmp .ge 23, 3) := by decide +kernel
theorem dX5_append_9 : decode cX5_append 9 = .ok (.aload_n 0, 1) := by decide +kernel
theorem dX5_append_10 : decode cX5_append 10 = .ok (.getfield 9, 3) := by decide +kernel
theorem dX5_append_13 : decode cX5_append 13 = .ok (.aload_n 0, 1) := by decide +kernel
theorem dX5_append_14 : decode cX5_append 14 = .ok (.getfield 22, 3) := by decide +kernel
theorem dX5_append_17 : decode cX5_append 17 = .ok (.iload_n 1, 1) := by decide +kernel
theorem dX5_append_18 : decode cX5_append 18 = .ok (.iastore, 1) := by decide +kernel
theorem dX5_append_19 : decode cX5_append 19 = .ok (.aload_n 0, 1) := by decide +kernel
theorem dX5_append_20 : decode cX5_append 20 = .ok (.dup, 1) := by decide +kernel
theorem dX5_append_21 : decode cX5_append 21 = .ok (.getfield 22, 3) := by decide +kernel
theorem dX5_append_24 : decode cX5_append 24 = .ok (.iconst 1, 1) := by decide +kernel
theorem dX5_append_25 : decode cX5_append 25 = .ok (.iadd, 1) := by decide +kernel
theorem dX5_append_26 : decode cX5_append 26 = .ok (.putfield 22, 3) := by decide +kernel
theorem dX5_append_29 : decode cX5_append 29 = .ok (.return_, 1) := by decide +kernel
theorem dX5_empty_0 : decode cX5_empty 0 = .ok (.aload_n 0, 1) := by decide +kernel
theorem dX5_empty_1 : decode cX5_empty 1 = .ok (.iconst 0, 1) := by decide +kernel
theorem dX5_empty_2 : decode cX5_empty 2 = .ok (.putfield 22, 3) := by decide +kernel
theorem dX5_empty_5 : decode cX5_empty 5 = .ok (.return_, 1) := by decide +kernel
theorem dX5_parse_0 : decode cX5_parse 0 = .ok (.aload_n 0, 1) := by decide +kernel
theorem dX5_parse_1 : decode cX5_parse 1 = .ok (.getfield 18, 3) := by decide +kernel
theorem dX5_parse_4 : decode cX5_parse 4 = .ok (.invokevirtual 26, 3) := by decide +kernel
theorem dX5_parse_7 : decode cX5_parse 7 = .ok (.iconst 0, 1) := by decide +kernel
theorem dX5_parse_8 : decode cX5_parse 8 = .ok (.istore_n 1, 1) := by decide +kernel
theorem dX5_parse_9 : decode cX5_parse 9 = .ok (.iconst 0, 1) := by decide +kernel
theorem dX5_parse_10 : decode cX5_parse 10 = .ok (.istore_n 2, 1) := by decide +kernel
theorem dX5_parse_11 : decode cX5_parse 11 = .ok (.iload_n 2, 1) := by decide +kernel
theorem dX5_parse_12 : decode cX5_parse 12 = .ok (.aload_n 0, 1) := by decide +kernel
theorem dX5_parse_13 : decode cX5_parse 13 = .ok (.getfield 22, 3) := by decide +kernel
theorem dX5_parse_16 : decode cX5_parse 16 = .ok (.if_icmp .ge 40, 3) := by decide +kernel
theorem dX5_parse_19 : decode cX5_parse 19 = .ok (.aload_n 0, 1) := by decide +kernel
theorem dX5_parse_20 : decode cX5_parse 20 = .ok (.getfield 9, 3) := by decide +kernel
theorem dX5_parse_23 : decode cX5_parse 23 = .ok (.iload_n 2, 1) := by decide +kernel
theorem dX5_parse_24 : decode cX5_parse 24 = .ok (.iaload, 1) := by decide +kernel
theorem dX5_parse_25 : decode cX5_parse 25 = .ok (.bipush 32, 2) := by decide +kernel
theorem dX5_parse_27 : decode cX5_parse 27 = .ok (.if_icmp .eq 15, 3) := by decide +kernel
theorem dX5_parse_30 : decode cX5_parse 30 = .ok (.aload_n 0, 1) := by decide +kernel
theorem dX5_parse_31 : decode cX5_parse 31 = .ok (.iload_n 1, 1) := by decide +kernel
theorem dX5_parse_32 : decode cX5_parse 32 = .ok (.aload_n 0, 1) := by decide +kernel
theorem dX5_parse_33 : decode cX5_parse 33 = .ok (.getfield 9, 3) := by decide +kernel
theorem dX5_parse_36 : decode cX5_parse 36 = .ok (.iload_n 2, 1) := by decide +kernel
theorem dX5_parse_37 : decode cX5_parse 37 = .ok (.iaload, 1) := by decide +kernel
theorem dX5_parse_38 : decode cX5_parse 38 = .ok (.invokevirtual 29, 3) := by decide +kernel
theorem dX5_parse_41 : decode cX5_parse 41 = .ok (.istore_n 1, 1) := by decide +kernel
theorem dX5_parse_42 : decode cX5_parse 42 = .ok (.iload_n 1, 1) := by decide +kernel
theorem dX5_parse_43 : decode cX5_parse 43 = .ok (.bipush 6, 2) := by decide +kernel
theorem dX5_parse_45 : decode cX5_parse 45 = .ok (.if_icmp .ne 5, 3) := by decide +kernel
theorem dX5_parse_48 : decode cX5_parse 48 = .ok (.iload_n 2, 1) := by decide +kernel
theorem dX5_parse_49 : decode cX5_parse 49 = .ok (.ireturn, 1) := by decide +kernel
theorem dX5_parse_50 : decode cX5_parse 50 = .ok (.iinc 2 1, 3) := by decide +kernel
theorem dX5_parse_53 : decode cX5_parse 53 = .ok (.goto (-42), 3) := by decide +kernel
theorem dX5_parse_56 : decode cX5_parse 56 = .ok (.iload_n 1, 1) := by decide +kernel
theorem dX5_parse_57 : decode cX5_parse 57 = .ok (.ifCond .ne 7, 3) := by decide +kernel
theorem dX5_parse_60 : decode cX5_parse 60 = .ok (.iconst (-1), 1) := by decide +kernel
theorem dX5_parse_61 : decode cX5_parse 61 = .ok (.goto 7, 3) := by decide +kernel
theorem dX5_parse_64 : decode cX5_parse 64 = .ok (.aload_n 0, 1) := by decide +kernel
theorem dX5_parse_65 : decode cX5_parse 65 = .ok (.getfield 22, 3) := by decide +kernel
theorem dX5_parse_68 : decode cX5_parse 68 = .ok (.ireturn, 1) := by decide +kernel
theorem dX5_stepBehind_0 : decode cX5_stepBehind 0 = .ok (.iload_n 1, 1) := by decide +kernel
theorem dX5_stepBehind_1 : decode cX5_stepBehind 1 = .ok (.tableswitch 84 0 4 #[35, 41, 47, 72, 78], 35) := by decide +kernel
theorem dX5_stepBehind_36 : decode cX5_stepBehind 36 = .ok (.aload_n 0, 1) := by decide +kernel
theorem dX5_stepBehind_37 : decode cX5_stepBehind 37 = .ok (.iload_n 2, 1) := by decide +kernel
theorem dX5_stepBehind_38 : decode cX5_stepBehind 38 = .ok (.invokevirtual 33, 3) := by decide +kernel
theorem dX5_stepBehind_41 : decode cX5_stepBehind 41 = .ok (.ireturn, 1) := by decide +kernel
theorem dX5_stepBehind_42 : decode cX5_stepBehind 42 = .ok (.aload_n 0, 1) := by decide +kernel
theorem dX5_stepBehind_43 : decode cX5_stepBehind 43 = .ok (.iload_n 2, 1) := by decide +kernel
theorem dX5_stepBehind_44 : decode cX5_stepBehind 44 = .ok (.invokevirtual 37, 3) := by decide +kernel
theorem dX5_stepBehind_47 : decode cX5_stepBehind 47 = .ok (.ireturn, 1) := by decide +kernel
theorem dX5_stepBehind_48 : decode cX5_stepBehind 48 = .ok (.iload_n 2, 1) := by decide +kernel
theorem dX5_stepBehind_49 : decode cX5_stepBehind 49 = .ok (.bipush 61, 2) := by decide +kernel
theorem dX5_stepBehind_51 : decode cX5_stepBehind 51 = .ok (.if_icmp .ne 19, 3) := by decide +kernel
theorem dX5_stepBehind_54 : decode cX5_stepBehind 54 = .ok (.aload_n 0, 1) := by decide +kernel
theorem dX5_stepBehind_55 : decode cX5_stepBehind 55 = .ok (.getfield 40, 3) := by decide +kernel
theorem dX5_stepBehind_58 : decode cX5_stepBehind 58 = .ok (.iconst 3, 1) := by decide +kernel
theorem dX5_stepBehind_59 : decode cX5_stepBehind 59 = .ok (.if_icmp .ne 7, 3) := by decide +kernel
theorem dX5_stepBehind_62 : decode cX5_stepBehind 62 = .ok (.iconst 4, 1) := by decide +kernel
theorem dX5_stepBehind_63 : decode cX5_stepBehind 63 = .ok (.goto 9, 3) := by decide +kernel
theorem dX5_stepBehind_66 : decode cX5_stepBehind 66 = .ok (.iconst 3, 1) := by decide +kernel
theorem dX5_stepBehind_67 : decode cX5_stepBehind 67 = .ok (.goto 5, 3) := by decide +kernel
theorem dX5_stepBehind_70 : decode cX5_stepBehind 70 = .ok (.bipush 6, 2) := by decide +kernel
theorem dX5_stepBehind_72 : decode cX5_stepBehind 72 = .ok (.ireturn, 1) := by decide +kernel
theorem dX5_stepBehind_73 : decode cX5_stepBehind 73 = .ok (.aload_n 0, 1) := by decide +kernel
theorem dX5_stepBehind_74 : decode cX5_stepBehind 74 = .ok (.iload_n 2, 1) := by decide +kernel
theorem dX5_stepBehind_75 : decode cX5_stepBehind 75 = .ok (.invokevirtual 43, 3) := by decide +kernel
theorem dX5_stepBehind_78 : decode cX5_stepBehind 78 = .ok (.ireturn, 1) := by decide +kernel
theorem dX5_stepBehind_79 : decode cX5_stepBehind 79 = .ok (.aload_n 0, 1) := by decide +kernel
theorem dX5_stepBehind_80 : decode cX5_stepBehind 80 = .ok (.iload_n 2, 1) := by decide +kernel
theorem dX5_stepBehind_81 : decode cX5_stepBehind 81 = .ok (.invokevirtual 46, 3) := by decide +kernel
theorem dX5_stepBehind_84 : decode cX5_stepBehind 84 = .ok (.ireturn, 1) := by decide +kernel
theorem dX5_stepBehind_85 : decode cX5_stepBehind 85 = .ok (.aload_n 0, 1) := by decide +kernel
theorem dX5_stepBehind_86 : decode cX5_stepBehind 86 = .ok (.iload_n 2, 1) := by decide +kernel
theorem dX5_stepBehind_87 : decode cX5_stepBehind 87 = .ok (.invokevirtual 49, 3) := by decide +kernel
theorem dX5_stepBehind_90 : decode cX5_stepBehind 90 = .ok (.ireturn, 1) := by decide +kernel
theorem dX5_behindStart_0 : decode cX5_behindStart 0 = .ok (.aload_n 0, 1) := by decide +kernel
theorem dX5_behindStart_1 : decode cX5_behindStart 1 = .ok (.getfield 18, 3) := by decide +kernel
theorem dX5_behindStart_4 : decode cX5_behindStart 4 = .ok (.invokevirtual 52, 3) := by decide +kernel
theorem dX5_behindStart_7 : decode cX5_behindStart 7 = .ok (.bipush 14, 2) := by decide +kernel
theorem dX5_behindStart_9 : decode cX5_behindStart 9 = .ok (.if_icmp .lt 6, 3) := by decide +kernel
theorem dX5_behindStart_12 : decode cX5_behindStart 12 = .ok (.bipush 6, 2) := by decide +kernel
theorem dX5_behindStart_14 : decode cX5_behindStart 14 = .ok (.ireturn, 1) := by decide +kernel
theorem dX5_behindStart_15 : decode cX5_behindStart 15 = .ok (.aload_n 0, 1) := by decide +kernel
theorem dX5_behindStart_16 : decode cX5_behindStart 16 = .ok (.iload_n 1, 1) := by decide +kernel
theorem dX5_behindStart_17 : decode cX5_behindStart 17 = .ok (.bipush 42, 2) := by decide +kernel
theorem dX5_behindStart_19 : decode cX5_behindStart 19 = .ok (.if_icmp .ne 7, 3) := by decide +kernel
theorem dX5_behindStart_22 : decode cX5_behindStart 22 = .ok (.iconst 3, 1) := by decide +kernel
theorem dX5_behindStart_23 : decode cX5_behindStart 23 = .ok (.goto 4, 3) := by decide +kernel
theorem dX5_behindStart_26 : decode cX5_behindStart 26 = .ok (.iconst 1, 1) := by decide +kernel
theorem dX5_behindStart_27 : decode cX5_behindStart 27 = .ok (.putfield 40, 3) := by decide +kernel
theorem dX5_behindStart_30 : decode cX5_behindStart 30 = .ok (.iload_n 1, 1) := by decide +kernel
theorem dX5_behindStart_31 : decode cX5_behindStart 31 = .ok (.bipush 42, 2) := by decide +kernel
theorem dX5_behindStart_33 : decode cX5_behindStart 33 = .ok (.if_icmp .ne 7, 3) := by decide +kernel
theorem dX5_behindStart_36 : decode cX5_behindStart 36 = .ok (.iconst 1, 1) := by decide +kernel
theorem dX5_behindStart_37 : decode cX5_behindStart 37 = .ok (.goto 8, 3) := by decide +kernel
theorem dX5_behindStart_40 : decode cX5_behindStart 40 = .ok (.aload_n 0, 1) := by decide +kernel
theorem dX5_behindStart_41 : decode cX5_behindStart 41 = .ok (.iload_n 1, 1) := by decide +kernel
theorem dX5_behindStart_42 : decode cX5_behindStart 42 = .ok (.invokevirtual 37, 3) := by decide +kernel
theorem dX5_behindStart_45 : decode cX5_behindStart 45 = .ok (.ireturn, 1) := by decide +kernel
theorem dX5_behindLeftName_0 : decode cX5_behindLeftName 0 = .ok (.aload_n 0, 1) := by decide +kernel
theorem dX5_behindLeftName_1 : decode cX5_behindLeftName 1 = .ok (.iload_n 1, 1) := by decide +kernel
theorem dX5_behindLeftName_2 : decode cX5_behindLeftName 2 = .ok (.bipush 97, 2) := by decide +kernel
theorem dX5_behindLeftName_4 : decode cX5_behindLeftName 4 = .ok (.isub, 1) := by decide +kernel
theorem dX5_behindLeftName_5 : decode cX5_behindLeftName 5 = .ok (.putfield 56, 3) := by decide +kernel
theorem dX5_behindLeftName_8 : decode cX5_behindLeftName 8 = .ok (.aload_n 0, 1) := by decide +kernel
theorem dX5_behindLeftName_9 : decode cX5_behindLeftName 9 = .ok (.getfield 56, 3) := by decide +kernel
theorem dX5_behindLeftName_12 : decode cX5_behindLeftName 12 = .ok (.invokestatic 59, 3) := by decide +kernel
theorem dX5_behindLeftName_15 : decode cX5_behindLeftName 15 = .ok (.ifCond .eq 7, 3) := by decide +kernel
theorem dX5_behindLeftName_18 : decode cX5_behindLeftName 18 = .ok (.iconst 2, 1) := by decide +kernel
theorem dX5_behindLeftName_19 : decode cX5_behindLeftName 19 = .ok (.goto 5, 3) := by decide +kernel
theorem dX5_behindLeftName_22 : decode cX5_behindLeftName 22 = .ok (.bipush 6, 2) := by decide +kernel
theorem dX5_behindLeftName_24 : decode cX5_behindLeftName 24 = .ok (.ireturn, 1) := by decide +kernel
theorem dX5_behindRightSide_0 : decode cX5_behindRightSide 0 = .ok (.iload_n 1, 1) := by decide +kernel
theorem dX5_behindRightSide_1 : decode cX5_behindRightSide 1 = .ok (.bipush 38, 2) := by decide +kernel
theorem dX5_behindRightSide_3 : decode cX5_behindRightSide 3 = .ok (.if_icmp .eq 9, 3) := by decide +kernel
theorem dX5_behindRightSide_6 : decode cX5_behindRightSide 6 = .ok (.iload_n 1, 1) := by decide +kernel
theorem dX5_behindRightSide_7 : decode cX5_behindRightSide 7 = .ok (.bipush 42, 2) := by decide +kernel
theorem dX5_behindRightSide_9 : decode cX5_behindRightSide 9 = .ok (.if_icmp .ne 20, 3) := by decide +kernel
theorem dX5_behindRightSide_12 : decode cX5_behindRightSide 12 = .ok (.aload_n 0, 1) := by decide +kernel
theorem dX5_behindRightSide_13 : decode cX5_behindRightSide 13 = .ok (.iload_n 1, 1) := by decide +kernel
theorem dX5_behindRightSide_14 : decode cX5_behindRightSide 14 = .ok (.bipush 38, 2) := by decide +kernel
theorem dX5_behindRightSide_16 : decode cX5_behindRightSide 16 = .ok (.if_icmp .ne 7, 3) := by decide +kernel
theorem dX5_behindRightSide_19 : decode cX5_behindRightSide 19 = .ok (.iconst 0, 1) := by decide +kernel
theorem dX5_behindRightSide_20 : decode cX5_behindRightSide 20 = .ok (.goto 4, 3) := by decide +kernel
theorem dX5_behindRightSide_23 : decode cX5_behindRightSide 23 = .ok (.iconst 2, 1) := by decide +kernel
theorem dX5_behindRightSide_24 : decode cX5_behindRightSide 24 = .ok (.putfield 40, 3) := by decide +kernel
theorem dX5_behindRightSide_27 : decode cX5_behindRightSide 27 = .ok (.iconst 4, 1) := by decide +kernel
theorem dX5_behindRightSide_28 : decode cX5_behindRightSide 28 = .ok (.ireturn, 1) := by decide +kernel
theorem dX5_behindRightSide_29 : decode cX5_behindRightSide 29 = .ok (.aload_n 0, 1) := by decide +kernel
theorem dX5_behindRightSide_30 : decode cX5_behindRightSide 30 = .ok (.iload_n 1, 1) := by decide +kernel
