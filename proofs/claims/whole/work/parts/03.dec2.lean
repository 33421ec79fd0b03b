theorem dX7_drops_28 : decode cX7_drops 28 = .ok (.iconst 0, 1) := by decide +kernel
theorem dX7_drops_29 : decode cX7_drops 29 = .ok (.iaload, 1) := by decide +kernel
theorem dX7_drops_30 : decode cX7_drops 30 = .ok (.if_icmp .ge 23, 3) := by decide +kernel
theorem dX7_drops_33 : decode cX7_drops 33 = .ok (.aload_n 0, 1) := by decide +kernel
theorem dX7_drops_34 : decode cX7_drops 34 = .ok (.getfield 7, 3) := by decide +kernel
theorem dX7_drops_37 : decode cX7_drops 37 = .ok (.iload_n 2, 1) := by decide +kernel
theorem dX7_drops_38 : decode cX7_drops 38 = .ok (.aload_n 0, 1) := by decide +kernel
theorem dX7_drops_39 : decode cX7_drops 39 = .ok (.getfield 7, 3) := by decide +kernel
theorem dX7_drops_42 : decode cX7_drops 42 = .ok (.iload_n 2, 1) := by decide +kernel
theorem dX7_drops_43 : decode cX7_drops 43 = .ok (.iconst 1, 1) := by decide +kernel
theorem dX7_drops_44 : decode cX7_drops 44 = .ok (.iadd, 1) := by decide +kernel
theorem dX7_drops_45 : decode cX7_drops 45 = .ok (.iaload, 1) := by decide +kernel
theorem dX7_drops_46 : decode cX7_drops 46 = .ok (.iastore, 1) := by decide +kernel
theorem dX7_drops_47 : decode cX7_drops 47 = .ok (.iinc 2 1, 3) := by decide +kernel
theorem dX7_drops_50 : decode cX7_drops 50 = .ok (.goto (-27), 3) := by decide +kernel
theorem dX7_drops_53 : decode cX7_drops 53 = .ok (.aload_n 0, 1) := by decide +kernel
theorem dX7_drops_54 : decode cX7_drops 54 = .ok (.getfield 7, 3) := by decide +kernel
theorem dX7_drops_57 : decode cX7_drops 57 = .ok (.iconst 0, 1) := by decide +kernel
theorem dX7_drops_58 : decode cX7_drops 58 = .ok (.dup2, 1) := by decide +kernel
theorem dX7_drops_59 : decode cX7_drops 59 = .ok (.iaload, 1) := by decide +kernel
theorem dX7_drops_60 : decode cX7_drops 60 = .ok (.iconst 1, 1) := by decide +kernel
theorem dX7_drops_61 : decode cX7_drops 61 = .ok (.isub, 1) := by decide +kernel
theorem dX7_drops_62 : decode cX7_drops 62 = .ok (.iastore, 1) := by decide +kernel
theorem dX7_drops_63 : decode cX7_drops 63 = .ok (.aload_n 0, 1) := by decide +kernel
theorem dX7_drops_64 : decode cX7_drops 64 = .ok (.getfield 7, 3) := by decide +kernel
theorem dX7_drops_67 : decode cX7_drops 67 = .ok (.iconst 0, 1) := by decide +kernel
theorem dX7_drops_68 : decode cX7_drops 68 = .ok (.iaload, 1) := by decide +kernel
theorem dX7_drops_69 : decode cX7_drops 69 = .ok (.ireturn, 1) := by decide +kernel
theorem dX7_moves_0 : decode cX7_moves 0 = .ok (.aload_n 0, 1) := by decide +kernel
theorem dX7_moves_1 : decode cX7_moves 1 = .ok (.iload_n 1, 1) := by decide +kernel
theorem dX7_moves_2 : decode cX7_moves 2 = .ok (.invokevirtual 62, 3) := by decide +kernel
theorem dX7_moves_5 : decode cX7_moves 5 = .ok (.ifCond .eq 11, 3) := by decide +kernel
theorem dX7_moves_8 : decode cX7_moves 8 = .ok (.aload_n 0, 1) := by decide +kernel
theorem dX7_moves_9 : decode cX7_moves 9 = .ok (.iload_n 2, 1) := by decide +kernel
theorem dX7_moves_10 : decode cX7_moves 10 = .ok (.invokevirtual 62, 3) := by decide +kernel
theorem dX7_moves_13 : decode cX7_moves 13 = .ok (.ifCond .ne 10, 3) := by decide +kernel
theorem dX7_moves_16 : decode cX7_moves 16 = .ok (.aload_n 0, 1) := by decide +kernel
theorem dX7_moves_17 : decode cX7_moves 17 = .ok (.bipush (-2), 2) := by decide +kernel
theorem dX7_moves_19 : decode cX7_moves 19 = .ok (.invokevirtual 51, 3) := by decide +kernel
theorem dX7_moves_22 : decode cX7_moves 22 = .ok (.ireturn, 1) := by decide +kernel
theorem dX7_moves_23 : decode cX7_moves 23 = .ok (.aload_n 0, 1) := by decide +kernel
theorem dX7_moves_24 : decode cX7_moves 24 = .ok (.invokevirtual 59, 3) := by decide +kernel
theorem dX7_moves_27 : decode cX7_moves 27 = .ok (.aload_n 0, 1) := by decide +kernel
theorem dX7_moves_28 : decode cX7_moves 28 = .ok (.getfield 7, 3) := by decide +kernel
theorem dX7_moves_31 : decode cX7_moves 31 = .ok (.iconst 1, 1) := by decide +kernel
theorem dX7_moves_32 : decode cX7_moves 32 = .ok (.iload_n 1, 1) := by decide +kernel
theorem dX7_moves_33 : decode cX7_moves 33 = .ok (.iadd, 1) := by decide +kernel
theorem dX7_moves_34 : decode cX7_moves 34 = .ok (.iaload, 1) := by decide +kernel
theorem dX7_moves_35 : decode cX7_moves 35 = .ok (.istore_n 3, 1) := by decide +kernel
theorem dX7_moves_36 : decode cX7_moves 36 = .ok (.iload_n 1, 1) := by decide +kernel
theorem dX7_moves_37 : decode cX7_moves 37 = .ok (.istore 4, 2) := by decide +kernel
theorem dX7_moves_39 : decode cX7_moves 39 = .ok (.iload 4, 2) := by decide +kernel
theorem dX7_moves_41 : decode cX7_moves 41 = .ok (.iload_n 2, 1) := by decide +kernel
theorem dX7_moves_42 : decode cX7_moves 42 = .ok (.if_icmp .ge 27, 3) := by decide +kernel
theorem dX7_moves_45 : decode cX7_moves 45 = .ok (.aload_n 0, 1) := by decide +kernel
theorem dX7_moves_46 : decode cX7_moves 46 = .ok (.getfield 7, 3) := by decide +kernel
theorem dX7_moves_49 : decode cX7_moves 49 = .ok (.iconst 1, 1) := by decide +kernel
theorem dX7_moves_50 : decode cX7_moves 50 = .ok (.iload 4, 2) := by decide +kernel
theorem dX7_moves_52 : decode cX7_moves 52 = .ok (.iadd, 1) := by decide +kernel
theorem dX7_moves_53 : decode cX7_moves 53 = .ok (.aload_n 0, 1) := by decide +kernel
theorem dX7_moves_54 : decode cX7_moves 54 = .ok (.getfield 7, 3) := by decide +kernel
theorem dX7_moves_57 : decode cX7_moves 57 = .ok (.iconst 2, 1) := by decide +kernel
theorem dX7_moves_58 : decode cX7_moves 58 = .ok (.iload 4, 2) := by decide +kernel
theorem dX7_moves_60 : decode cX7_moves 60 = .ok (.iadd, 1) := by decide +kernel
theorem dX7_moves_61 : decode cX7_moves 61 = .ok (.iaload, 1) := by decide +kernel
theorem dX7_moves_62 : decode cX7_moves 62 = .ok (.iastore, 1) := by decide +kernel
theorem dX7_moves_63 : decode cX7_moves 63 = .ok (.iinc 4 1, 3) := by decide +kernel
theorem dX7_moves_66 : decode cX7_moves 66 = .ok (.goto (-27), 3) := by decide +kernel
theorem dX7_moves_69 : decode cX7_moves 69 = .ok (.iload_n 1, 1) := by decide +kernel
theorem dX7_moves_70 : decode cX7_moves 70 = .ok (.istore 4, 2) := by decide +kernel
theorem dX7_moves_72 : decode cX7_moves 72 = .ok (.iload 4, 2) := by decide +kernel
theorem dX7_moves_74 : decode cX7_moves 74 = .ok (.iload_n 2, 1) := by decide +kernel
theorem dX7_moves_75 : decode cX7_moves 75 = .ok (.if_icmp .le 25, 3) := by decide +kernel
theorem dX7_moves_78 : decode cX7_moves 78 = .ok (.aload_n 0, 1) := by decide +kernel
theorem dX7_moves_79 : decode cX7_moves 79 = .ok (.getfield 7, 3) := by decide +kernel
theorem dX7_moves_82 : decode cX7_moves 82 = .ok (.iconst 1, 1) := by decide +kernel
theorem dX7_moves_83 : decode cX7_moves 83 = .ok (.iload 4, 2) := by decide +kernel
theorem dX7_moves_85 : decode cX7_moves 85 = .ok (.iadd, 1) := by decide +kernel
theorem dX7_moves_86 : decode cX7_moves 86 = .ok (.aload_n 0, 1) := by decide +kernel
theorem dX7_moves_87 : decode cX7_moves 87 = .ok (.getfield 7, 3) := by decide +kernel
theorem dX7_moves_90 : decode cX7_moves 90 = .ok (.iload 4, 2) := by decide +kernel
theorem dX7_moves_92 : decode cX7_moves 92 = .ok (.iaload, 1) := by decide +kernel
theorem dX7_moves_93 : decode cX7_moves 93 = .ok (.iastore, 1) := by decide +kernel
theorem dX7_moves_94 : decode cX7_moves 94 = .ok (.iinc 4 (-1), 3) := by decide +kernel
theorem dX7_moves_97 : decode cX7_moves 97 = .ok (.goto (-25), 3) := by decide +kernel
theorem dX7_moves_100 : decode cX7_moves 100 = .ok (.aload_n 0, 1) := by decide +kernel
theorem dX7_moves_101 : decode cX7_moves 101 = .ok (.getfield 7, 3) := by decide +kernel
theorem dX7_moves_104 : decode cX7_moves 104 = .ok (.iconst 1, 1) := by decide +kernel
theorem dX7_moves_105 : decode cX7_moves 105 = .ok (.iload_n 2, 1) := by decide +kernel
theorem dX7_moves_106 : decode cX7_moves 106 = .ok (.iadd, 1) := by decide +kernel
theorem dX7_moves_107 : decode cX7_moves 107 = .ok (.iload_n 3, 1) := by decide +kernel
theorem dX7_moves_108 : decode cX7_moves 108 = .ok (.iastore, 1) := by decide +kernel
theorem dX7_moves_109 : decode cX7_moves 109 = .ok (.iload_n 1, 1) := by decide +kernel
theorem dX7_moves_110 : decode cX7_moves 110 = .ok (.ireturn, 1) := by decide +kernel
theorem dX7_gets_0 : decode cX7_gets 0 = .ok (.aload_n 0, 1) := by decide +kernel
theorem dX7_gets_1 : decode cX7_gets 1 = .ok (.aload_n 0, 1) := by decide +kernel
theorem dX7_gets_2 : decode cX7_gets 2 = .ok (.getfield 65, 3) := by decide +kernel
theorem dX7_gets_5 : decode cX7_gets 5 = .ok (.ifCond .ne 16, 3) := by decide +kernel
theorem dX7_gets_8 : decode cX7_gets 8 = .ok (.iload_n 2, 1) := by decide +kernel
theorem dX7_gets_9 : decode cX7_gets 9 = .ok (.aload_n 0, 1) := by decide +kernel
theorem dX7_gets_10 : decode cX7_gets 10 = .ok (.getfield 25, 3) := by decide +kernel
theorem dX7_gets_13 : decode cX7_gets 13 = .ok (.iload_n 1, 1) := by decide +kernel
theorem dX7_gets_14 : decode cX7_gets 14 = .ok (.iaload, 1) := by decide +kernel
theorem dX7_gets_15 : decode cX7_gets 15 = .ok (.iconst (-1), 1) := by decide +kernel
theorem dX7_gets_16 : decode cX7_gets 16 = .ok (.ixor, 1) := by decide +kernel
theorem dX7_gets_17 : decode cX7_gets 17 = .ok (.iand, 1) := by decide +kernel
theorem dX7_gets_18 : decode cX7_gets 18 = .ok (.ifCond .eq 7, 3) := by decide +kernel
theorem dX7_gets_21 : decode cX7_gets 21 = .ok (.iconst 1, 1) := by decide +kernel
theorem dX7_gets_22 : decode cX7_gets 22 = .ok (.goto 4, 3) := by decide +kernel
theorem dX7_gets_25 : decode cX7_gets 25 = .ok (.iconst 0, 1) := by decide +kernel
theorem dX7_gets_26 : decode cX7_gets 26 = .ok (.putfield 65, 3) := by decide +kernel
theorem dX7_gets_29 : decode cX7_gets 29 = .ok (.aload_n 0, 1) := by decide +kernel
theorem dX7_gets_30 : decode cX7_gets 30 = .ok (.getfield 25, 3) := by decide +kernel
theorem dX7_gets_33 : decode cX7_gets 33 = .ok (.iload_n 1, 1) := by decide +kernel
theorem dX7_gets_34 : decode cX7_gets 34 = .ok (.dup2, 1) := by decide +kernel
theorem dX7_gets_35 : decode cX7_gets 35 = .ok (.iaload, 1) := by decide +kernel
theorem dX7_gets_36 : decode cX7_gets 36 = .ok (.iload_n 2, 1) := by decide +kernel
theorem dX7_gets_37 : decode cX7_gets 37 = .ok (.ior, 1) := by decide +kernel
theorem dX7_gets_38 : decode cX7_gets 38 = .ok (.iastore, 1) := by decide +kernel
theorem dX7_gets_39 : decode cX7_gets 39 = .ok (.return_, 1) := by decide +kernel
theorem dX7_growsBy_0 : decode cX7_growsBy 0 = .ok (.aload_n 0, 1) := by decide +kernel
theorem dX7_growsBy_1 : decode cX7_growsBy 1 = .ok (.iload_n 1, 1) := by decide +kernel
theorem dX7_growsBy_2 : decode cX7_growsBy 2 = .ok (.invokevirtual 69, 3) := by decide +kernel
theorem dX7_growsBy_5 : decode cX7_growsBy 5 = .ok (.istore_n 2, 1) := by decide +kernel
theorem dX7_growsBy_6 : decode cX7_growsBy 6 = .ok (.aload_n 0, 1) := by decide +kernel
theorem dX7_growsBy_7 : decode cX7_growsBy 7 = .ok (.iload_n 1, 1) := by decide +kernel
theorem dX7_growsBy_8 : decode cX7_growsBy 8 = .ok (.invokevirtual 72, 3) := by decide +kernel
theorem dX7_growsBy_11 : decode cX7_growsBy 11 = .ok (.istore_n 3, 1) := by decide +kernel
theorem dX7_growsBy_12 : decode cX7_growsBy 12 = .ok (.iconst 0, 1) := by decide +kernel
theorem dX7_growsBy_13 : decode cX7_growsBy 13 = .ok (.istore 4, 2) := by decide +kernel
theorem dX7_growsBy_15 : decode cX7_growsBy 15 = .ok (.iload 4, 2) := by decide +kernel
theorem dX7_growsBy_17 : decode cX7_growsBy 17 = .ok (.bipush 10, 2) := by decide +kernel
theorem dX7_growsBy_19 : decode cX7_growsBy 19 = .ok (.if_icmp .ge 79, 3) := by decide +kernel
theorem dX7_growsBy_22 : decode cX7_growsBy 22 = .ok (.aload_n 0, 1) := by decide +kernel
theorem dX7_growsBy_23 : decode cX7_growsBy 23 = .ok (.iload_n 1, 1) := by decide +kernel
theorem dX7_growsBy_24 : decode cX7_growsBy 24 = .ok (.invokevirtual 75, 3) := by decide +kernel
theorem dX7_growsBy_27 : decode cX7_growsBy 27 = .ok (.iconst 2, 1) := by decide +kernel
theorem dX7_growsBy_28 : decode cX7_growsBy 28 = .ok (.if_icmp .ne 29, 3) := by decide +kernel
theorem dX7_growsBy_31 : decode cX7_growsBy 31 = .ok (.aload_n 0, 1) := by decide +kernel
theorem dX7_growsBy_32 : decode cX7_growsBy 32 = .ok (.getfield 25, 3) := by decide +kernel
theorem dX7_growsBy_35 : decode cX7_growsBy 35 = .ok (.iload_n 3, 1) := by decide +kernel
theorem dX7_growsBy_36 : decode cX7_growsBy 36 = .ok (.iaload, 1) := by decide +kernel
theorem dX7_growsBy_37 : decode cX7_growsBy 37 = .ok (.iload 4, 2) := by decide +kernel
theorem dX7_growsBy_39 : decode cX7_growsBy 39 = .ok (.invokestatic 78, 3) := by decide +kernel
theorem dX7_growsBy_42 : decode cX7_growsBy 42 = .ok (.ifCond .eq 15, 3) := by decide +kernel
theorem dX7_growsBy_45 : decode cX7_growsBy 45 = .ok (.aload_n 0, 1) := by decide +kernel
theorem dX7_growsBy_46 : decode cX7_growsBy 46 = .ok (.iload_n 2, 1) := by decide +kernel
theorem dX7_growsBy_47 : decode cX7_growsBy 47 = .ok (.aload_n 0, 1) := by decide +kernel
theorem dX7_growsBy_48 : decode cX7_growsBy 48 = .ok (.getfield 25, 3) := by decide +kernel
theorem dX7_growsBy_51 : decode cX7_growsBy 51 = .ok (.iload 4, 2) := by decide +kernel
theorem dX7_growsBy_53 : decode cX7_growsBy 53 = .ok (.iaload, 1) := by decide +kernel
theorem dX7_growsBy_54 : decode cX7_growsBy 54 = .ok (.invokevirtual 82, 3) := by decide +kernel
theorem dX7_growsBy_57 : decode cX7_growsBy 57 = .ok (.aload_n 0, 1) := by decide +kernel
theorem dX7_growsBy_58 : decode cX7_growsBy 58 = .ok (.iload_n 1, 1) := by decide +kernel
theorem dX7_growsBy_59 : decode cX7_growsBy 59 = .ok (.invokevirtual 75, 3) := by decide +kernel
theorem dX7_growsBy_62 : decode cX7_growsBy 62 = .ok (.iconst 3, 1) := by decide +kernel
theorem dX7_growsBy_63 : decode cX7_growsBy 63 = .ok (.if_icmp .ne 29, 3) := by decide +kernel
theorem dX7_growsBy_66 : decode cX7_growsBy 66 = .ok (.aload_n 0, 1) := by decide +kernel
theorem dX7_growsBy_67 : decode cX7_growsBy 67 = .ok (.getfield 25, 3) := by decide +kernel
theorem dX7_growsBy_70 : decode cX7_growsBy 70 = .ok (.iload_n 2, 1) := by decide +kernel
theorem dX7_growsBy_71 : decode cX7_growsBy 71 = .ok (.iaload, 1) := by decide +kernel
theorem dX7_growsBy_72 : decode cX7_growsBy 72 = .ok (.iload 4, 2) := by decide +kernel
theorem dX7_growsBy_74 : decode cX7_growsBy 74 = .ok (.invokestatic 78, 3) := by decide +kernel
theorem dX7_growsBy_77 : decode cX7_growsBy 77 = .ok (.ifCond .eq 15, 3) := by decide +kernel
theorem dX7_growsBy_80 : decode cX7_growsBy 80 = .ok (.aload_n 0, 1) := by decide +kernel
theorem dX7_growsBy_81 : decode cX7_growsBy 81 = .ok (.iload 4, 2) := by decide +kernel
theorem dX7_growsBy_83 : decode cX7_growsBy 83 = .ok (.aload_n 0, 1) := by decide +kernel
theorem dX7_growsBy_84 : decode cX7_growsBy 84 = .ok (.getfield 25, 3) := by decide +kernel
theorem dX7_growsBy_87 : decode cX7_growsBy 87 = .ok (.iload_n 3, 1) := by decide +kernel
theorem dX7_growsBy_88 : decode cX7_growsBy 88 = .ok (.iaload, 1) := by decide +kernel
theorem dX7_growsBy_89 : decode cX7_growsBy 89 = .ok (.invokevirtual 82, 3) := by decide +kernel
theorem dX7_growsBy_92 : decode cX7_growsBy 92 = .ok (.iinc 4 1, 3) := by decide +kernel
theorem dX7_growsBy_95 : decode cX7_growsBy 95 = .ok (.goto (-80), 3) := by decide +kernel
theorem dX7_growsBy_98 : decode cX7_growsBy 98 = .ok (.aload_n 0, 1) := by decide +kernel
theorem dX7_growsBy_99 : decode cX7_growsBy 99 = .ok (.iload_n 1, 1) := by decide +kernel
theorem dX7_growsBy_100 : decode cX7_growsBy 100 = .ok (.invokevirtual 75, 3) := by decide +kernel
theorem dX7_growsBy_103 : decode cX7_growsBy 103 = .ok (.iconst 2, 1) := by decide +kernel
theorem dX7_growsBy_104 : decode cX7_growsBy 104 = .ok (.if_icmp .ge 28, 3) := by decide +kernel
theorem dX7_growsBy_107 : decode cX7_growsBy 107 = .ok (.aload_n 0, 1) := by decide +kernel
theorem dX7_growsBy_108 : decode cX7_growsBy 108 = .ok (.iload_n 2, 1) := by decide +kernel
theorem dX7_growsBy_109 : decode cX7_growsBy 109 = .ok (.aload_n 0, 1) := by decide +kernel
theorem dX7_growsBy_110 : decode cX7_growsBy 110 = .ok (.iload_n 1, 1) := by decide +kernel
theorem dX7_growsBy_111 : decode cX7_growsBy 111 = .ok (.invokevirtual 75, 3) := by decide +kernel
theorem dX7_growsBy_114 : decode cX7_growsBy 114 = .ok (.ifCond .ne 9, 3) := by decide +kernel
theorem dX7_growsBy_117 : decode cX7_growsBy 117 = .ok (.iconst 1, 1) := by decide +kernel
theorem dX7_growsBy_118 : decode cX7_growsBy 118 = .ok (.iload_n 3, 1) := by decide +kernel
theorem dX7_growsBy_119 : decode cX7_growsBy 119 = .ok (.ishl, 1) := by decide +kernel
theorem dX7_growsBy_120 : decode cX7_growsBy 120 = .ok (.goto 9, 3) := by decide +kernel
theorem dX7_growsBy_123 : decode cX7_growsBy 123 = .ok (.aload_n 0, 1) := by decide +kernel
theorem dX7_growsBy_124 : decode cX7_growsBy 124 = .ok (.getfield 25, 3) := by decide +kernel
theorem dX7_growsBy_127 : decode cX7_growsBy 127 = .ok (.iload_n 3, 1) := by decide +kernel
theorem dX7_growsBy_128 : decode cX7_growsBy 128 = .ok (.iaload, 1) := by decide +kernel
theorem dX7_growsBy_129 : decode cX7_growsBy 129 = .ok (.invokevirtual 82, 3) := by decide +kernel
theorem dX7_growsBy_132 : decode cX7_growsBy 132 = .ok (.return_, 1) := by decide +kernel
theorem dX7_laysFine_0 : decode cX7_laysFine 0 = .ok (.iconst 0, 1) := by decide +kernel
theorem dX7_laysFine_1 : decode cX7_laysFine 1 = .ok (.istore_n 2, 1) := by decide +kernel
theorem dX7_laysFine_2 : decode cX7_laysFine 2 = .ok (.iload_n 2, 1) := by decide +kernel
theorem dX7_laysFine_3 : decode cX7_laysFine 3 = .ok (.bipush 10, 2) := by decide +kernel
theorem dX7_laysFine_5 : decode cX7_laysFine 5 = .ok (.if_icmp .ge 16, 3) := by decide +kernel
theorem dX7_laysFine_8 : decode cX7_laysFine 8 = .ok (.aload_n 0, 1) := by decide +kernel
theorem dX7_laysFine_9 : decode cX7_laysFine 9 = .ok (.getfield 25, 3) := by decide +kernel
theorem dX7_laysFine_12 : decode cX7_laysFine 12 = .ok (.iload_n 2, 1) := by decide +kernel
theorem dX7_laysFine_13 : decode cX7_laysFine 13 = .ok (.iconst 0, 1) := by decide +kernel
theorem dX7_laysFine_14 : decode cX7_laysFine 14 = .ok (.iastore, 1) := by decide +kernel
theorem dX7_laysFine_15 : decode cX7_laysFine 15 = .ok (.iinc 2 1, 3) := by decide +kernel
theorem dX7_laysFine_18 : decode cX7_laysFine 18 = .ok (.goto (-16), 3) := by decide +kernel
theorem dX7_laysFine_21 : decode cX7_laysFine 21 = .ok (.aload_n 0, 1) := by decide +kernel
theorem dX7_laysFine_22 : decode cX7_laysFine 22 = .ok (.iconst 1, 1) := by decide +kernel
theorem dX7_laysFine_23 : decode cX7_laysFine 23 = .ok (.putfield 65, 3) := by decide +kernel
theorem dX7_laysFine_26 : decode cX7_laysFine 26 = .ok (.aload_n 0, 1) := by decide +kernel
theorem dX7_laysFine_27 : decode cX7_laysFine 27 = .ok (.getfield 65, 3) := by decide +kernel
theorem dX7_laysFine_30 : decode cX7_laysFine 30 = .ok (.ifCond .eq 39, 3) := by decide +kernel
theorem dX7_laysFine_33 : decode cX7_laysFine 33 = .ok (.aload_n 0, 1) := by decide +kernel
theorem dX7_laysFine_34 : decode cX7_laysFine 34 = .ok (.iconst 0, 1) := by decide +kernel
theorem dX7_laysFine_35 : decode cX7_laysFine 35 = .ok (.putfield 65, 3) := by decide +kernel
theorem dX7_laysFine_38 : decode cX7_laysFine 38 = .ok (.iconst 0, 1) := by decide +kernel
theorem dX7_laysFine_39 : decode cX7_laysFine 39 = .ok (.istore_n 2, 1) := by decide +kernel
theorem dX7_laysFine_40 : decode cX7_laysFine 40 = .ok (.iload_n 2, 1) := by decide +kernel
theorem dX7_laysFine_41 : decode cX7_laysFine 41 = .ok (.aload_n 0, 1) := by decide +kernel
theorem dX7_laysFine_42 : decode cX7_laysFine 42 = .ok (.getfield 7, 3) := by decide +kernel
theorem dX7_laysFine_45 : decode cX7_laysFine 45 = .ok (.iconst 0, 1) := by decide +kernel
theorem dX7_laysFine_46 : decode cX7_laysFine 46 = .ok (.iaload, 1) := by decide +kernel
theorem dX7_laysFine_47 : decode cX7_laysFine 47 = .ok (.if_icmp .ge 19, 3) := by decide +kernel
theorem dX7_laysFine_50 : decode cX7_laysFine 50 = .ok (.iload_n 2, 1) := by decide +kernel
theorem dX7_laysFine_51 : decode cX7_laysFine 51 = .ok (.iload_n 1, 1) := by decide +kernel
theorem dX7_laysFine_52 : decode cX7_laysFine 52 = .ok (.if_icmp .eq 8, 3) := by decide +kernel
theorem dX7_laysFine_55 : decode cX7_laysFine 55 = .ok (.aload_n 0, 1) := by decide +kernel
theorem dX7_laysFine_56 : decode cX7_laysFine 56 = .ok (.iload_n 2, 1) := by decide +kernel
theorem dX7_laysFine_57 : decode cX7_laysFine 57 = .ok (.invokevirtual 86, 3) := by decide +kernel
theorem dX7_laysFine_60 : decode cX7_laysFine 60 = .ok (.iinc 2 1, 3) := by decide +kernel
theorem dX7_laysFine_63 : decode cX7_laysFine 63 = .ok (.goto (-23), 3) := by decide +kernel
theorem dX7_laysFine_66 : decode cX7_laysFine 66 = .ok (.goto (-40), 3) := by decide +kernel
theorem dX7_laysFine_69 : decode cX7_laysFine 69 = .ok (.return_, 1) := by decide +kernel
theorem dX7_joins_0 : decode cX7_joins 0 = .ok (.iload_n 1, 1) := by decide +kernel
theorem dX7_joins_1 : decode cX7_joins 1 = .ok (.istore_n 3, 1) := by decide +kernel
theorem dX7_joins_2 : decode cX7_joins 2 = .ok (.iload_n 2, 1) := by decide +kernel
theorem dX7_joins_3 : decode cX7_joins 3 = .ok (.istore 4, 2) := by decide +kernel
theorem dX7_joins_5 : decode cX7_joins 5 = .ok (.iload_n 3, 1) := by decide +kernel
theorem dX7_joins_6 : decode cX7_joins 6 = .ok (.iload 4, 2) := by decide +kernel
theorem dX7_joins_8 : decode cX7_joins 8 = .ok (.if_icmp .eq 231, 3) := by decide +kernel
theorem dX7_joins_11 : decode cX7_joins 11 = .ok (.iload_n 3, 1) := by decide +kernel
theorem dX7_joins_12 : decode cX7_joins 12 = .ok (.iload 4, 2) := by decide +kernel
theorem dX7_joins_14 : decode cX7_joins 14 = .ok (.if_icmp .ge 7, 3) := by decide +kernel
theorem dX7_joins_17 : decode cX7_joins 17 = .ok (.iload_n 3, 1) := by decide +kernel
theorem dX7_joins_18 : decode cX7_joins 18 = .ok (.goto 5, 3) := by decide +kernel
theorem dX7_joins_21 : decode cX7_joins 21 = .ok (.iload 4, 2) := by decide +kernel
theorem dX7_joins_23 : decode cX7_joins 23 = .ok (.istore 5, 2) := by decide +kernel
theorem dX7_joins_25 : decode cX7_joins 25 = .ok (.iload_n 3, 1) := by decide +kernel
theorem dX7_joins_26 : decode cX7_joins 26 = .ok (.iload 4, 2) := by decide +kernel
theorem dX7_joins_28 : decode cX7_joins 28 = .ok (.if_icmp .ge 8, 3) := by decide +kernel
theorem dX7_joins_31 : decode cX7_joins 31 = .ok (.iload 4, 2) := by decide +kernel
theorem dX7_joins_33 : decode cX7_joins 33 = .ok (.goto 4, 3) := by decide +kernel
theorem dX7_joins_36 : decode cX7_joins 36 = .ok (.iload_n 3, 1) := by decide +kernel
theorem dX7_joins_37 : decode cX7_joins 37 = .ok (.istore 6, 2) := by decide +kernel
theorem dX7_joins_39 : decode cX7_joins 39 = .ok (.aload_n 0, 1) := by decide +kernel
theorem dX7_joins_40 : decode cX7_joins 40 = .ok (.getfield 31, 3) := by decide +kernel
theorem dX7_joins_43 : decode cX7_joins 43 = .ok (.iload 5, 2) := by decide +kernel
theorem dX7_joins_45 : decode cX7_joins 45 = .ok (.iaload, 1) := by decide +kernel
theorem dX7_joins_46 : decode cX7_joins 46 = .ok (.istore 7, 2) := by decide +kernel
theorem dX7_joins_48 : decode cX7_joins 48 = .ok (.aload_n 0, 1) := by decide +kernel
theorem dX7_joins_49 : decode cX7_joins 49 = .ok (.getfield 31, 3) := by decide +kernel
theorem dX7_joins_52 : decode cX7_joins 52 = .ok (.iload 6, 2) := by decide +kernel
theorem dX7_joins_54 : decode cX7_joins 54 = .ok (.iaload, 1) := by decide +kernel
theorem dX7_joins_55 : decode cX7_joins 55 = .ok (.istore 8, 2) := by decide +kernel
theorem dX7_joins_57 : decode cX7_joins 57 = .ok (.iconst 0, 1) := by decide +kernel
theorem dX7_joins_58 : decode cX7_joins 58 = .ok (.istore 9, 2) := by decide +kernel
theorem dX7_joins_60 : decode cX7_joins 60 = .ok (.iload 9, 2) := by decide +kernel
theorem dX7_joins_62 : decode cX7_joins 62 = .ok (.bipush 10, 2) := by decide +kernel
theorem dX7_joins_64 : decode cX7_joins 64 = .ok (.if_icmp .ge 71, 3) := by decide +kernel
theorem dX7_joins_67 : decode cX7_joins 67 = .ok (.aload_n 0, 1) := by decide +kernel
theorem dX7_joins_68 : decode cX7_joins 68 = .ok (.getfield 28, 3) := by decide +kernel
theorem dX7_joins_71 : decode cX7_joins 71 = .ok (.iload 9, 2) := by decide +kernel
theorem dX7_joins_73 : decode cX7_joins 73 = .ok (.aload_n 0, 1) := by decide +kernel
theorem dX7_joins_74 : decode cX7_joins 74 = .ok (.getfield 28, 3) := by decide +kernel
theorem dX7_joins_77 : decode cX7_joins 77 = .ok (.iload 9, 2) := by decide +kernel
theorem dX7_joins_79 : decode cX7_joins 79 = .ok (.iaload, 1) := by decide +kernel
theorem dX7_joins_80 : decode cX7_joins 80 = .ok (.iload 6, 2) := by decide +kernel
theorem dX7_joins_82 : decode cX7_joins 82 = .ok (.if_icmp .ne 8, 3) := by decide +kernel
theorem dX7_joins_85 : decode cX7_joins 85 = .ok (.iload 5, 2) := by decide +kernel
theorem dX7_joins_87 : decode cX7_joins 87 = .ok (.goto 10, 3) := by decide +kernel
theorem dX7_joins_90 : decode cX7_joins 90 = .ok (.aload_n 0, 1) := by decide +kernel
theorem dX7_joins_91 : decode cX7_joins 91 = .ok (.getfield 28, 3) := by decide +kernel
theorem dX7_joins_94 : decode cX7_joins 94 = .ok (.iload 9, 2) := by decide +kernel
theorem dX7_joins_96 : decode cX7_joins 96 = .ok (.iaload, 1) := by decide +kernel
theorem dX7_joins_97 : decode cX7_joins 97 = .ok (.iastore, 1) := by decide +kernel
theorem dX7_joins_98 : decode cX7_joins 98 = .ok (.aload_n 0, 1) := by decide +kernel
theorem dX7_joins_99 : decode cX7_joins 99 = .ok (.getfield 31, 3) := by decide +kernel
theorem dX7_joins_102 : decode cX7_joins 102 = .ok (.iload 9, 2) := by decide +kernel
theorem dX7_joins_104 : decode cX7_joins 104 = .ok (.aload_n 0, 1) := by decide +kernel
theorem dX7_joins_105 : decode cX7_joins 105 = .ok (.getfield 31, 3) := by decide +kernel
theorem dX7_joins_108 : decode cX7_joins 108 = .ok (.iload 9, 2) := by decide +kernel
theorem dX7_joins_110 : decode cX7_joins 110 = .ok (.iaload, 1) := by decide +kernel
theorem dX7_joins_111 : decode cX7_joins 111 = .ok (.iload 6, 2) := by decide +kernel
theorem dX7_joins_113 : decode cX7_joins 113 = .ok (.if_icmp .ne 8, 3) := by decide +kernel
theorem dX7_joins_116 : decode cX7_joins 116 = .ok (.iload 5, 2) := by decide +kernel
theorem dX7_joins_118 : decode cX7_joins 118 = .ok (.goto 10, 3) := by decide +kernel
theorem dX7_joins_121 : decode cX7_joins 121 = .ok (.aload_n 0, 1) := by decide +kernel
theorem dX7_joins_122 : decode cX7_joins 122 = .ok (.getfield 31, 3) := by decide +kernel
theorem dX7_joins_125 : decode cX7_joins 125 = .ok (.iload 9, 2) := by decide +kernel
theorem dX7_joins_127 : decode cX7_joins 127 = .ok (.iaload, 1) := by decide +kernel
theorem dX7_joins_128 : decode cX7_joins 128 = .ok (.iastore, 1) := by decide +kernel
theorem dX7_joins_129 : decode cX7_joins 129 = .ok (.iinc 9 1, 3) := by decide +kernel
theorem dX7_joins_132 : decode cX7_joins 132 = .ok (.goto (-72), 3) := by decide +kernel
theorem dX7_joins_135 : decode cX7_joins 135 = .ok (.iload 7, 2) := by decide +kernel
theorem dX7_joins_137 : decode cX7_joins 137 = .ok (.iload 6, 2) := by decide +kernel
theorem dX7_joins_139 : decode cX7_joins 139 = .ok (.if_icmp .ne 8, 3) := by decide +kernel
theorem dX7_joins_142 : decode cX7_joins 142 = .ok (.iload 5, 2) := by decide +kernel
theorem dX7_joins_144 : decode cX7_joins 144 = .ok (.goto 5, 3) := by decide +kernel
theorem dX7_joins_147 : decode cX7_joins 147 = .ok (.iload 7, 2) := by decide +kernel
theorem dX7_joins_149 : decode cX7_joins 149 = .ok (.istore 7, 2) := by decide +kernel
theorem dX7_joins_151 : decode cX7_joins 151 = .ok (.iload 8, 2) := by decide +kernel
theorem dX7_joins_153 : decode cX7_joins 153 = .ok (.iload 6, 2) := by decide +kernel
theorem dX7_joins_155 : decode cX7_joins 155 = .ok (.if_icmp .ne 8, 3) := by decide +kernel
theorem dX7_joins_158 : decode cX7_joins 158 = .ok (.iload 5, 2) := by decide +kernel
theorem dX7_joins_160 : decode cX7_joins 160 = .ok (.goto 5, 3) := by decide +kernel
theorem dX7_joins_163 : decode cX7_joins 163 = .ok (.iload 8, 2) := by decide +kernel
theorem dX7_joins_165 : decode cX7_joins 165 = .ok (.istore 8, 2) := by decide +kernel
theorem dX7_joins_167 : decode cX7_joins 167 = .ok (.aload_n 0, 1) := by decide +kernel
theorem dX7_joins_168 : decode cX7_joins 168 = .ok (.getfield 31, 3) := by decide +kernel
theorem dX7_joins_171 : decode cX7_joins 171 = .ok (.iload 5, 2) := by decide +kernel
theorem dX7_joins_173 : decode cX7_joins 173 = .ok (.iload 7, 2) := by decide +kernel
theorem dX7_joins_175 : decode cX7_joins 175 = .ok (.iconst (-1), 1) := by decide +kernel
theorem dX7_joins_176 : decode cX7_joins 176 = .ok (.if_icmp .ne 8, 3) := by decide +kernel
theorem dX7_joins_179 : decode cX7_joins 179 = .ok (.iload 8, 2) := by decide +kernel
theorem dX7_joins_181 : decode cX7_joins 181 = .ok (.goto 5, 3) := by decide +kernel
theorem dX7_joins_184 : decode cX7_joins 184 = .ok (.iload 7, 2) := by decide +kernel
theorem dX7_joins_186 : decode cX7_joins 186 = .ok (.iastore, 1) := by decide +kernel
theorem dX7_joins_187 : decode cX7_joins 187 = .ok (.aload_n 0, 1) := by decide +kernel
theorem dX7_joins_188 : decode cX7_joins 188 = .ok (.getfield 31, 3) := by decide +kernel
theorem dX7_joins_191 : decode cX7_joins 191 = .ok (.iload 6, 2) := by decide +kernel
theorem dX7_joins_193 : decode cX7_joins 193 = .ok (.iconst (-1), 1) := by decide +kernel
theorem dX7_joins_194 : decode cX7_joins 194 = .ok (.iastore, 1) := by decide +kernel
theorem dX7_joins_195 : decode cX7_joins 195 = .ok (.iload 7, 2) := by decide +kernel
theorem dX7_joins_197 : decode cX7_joins 197 = .ok (.iconst (-1), 1) := by decide +kernel
theorem dX7_joins_198 : decode cX7_joins 198 = .ok (.if_icmp .eq 9, 3) := by decide +kernel
theorem dX7_joins_201 : decode cX7_joins 201 = .ok (.iload 8, 2) := by decide +kernel
theorem dX7_joins_203 : decode cX7_joins 203 = .ok (.iconst (-1), 1) := by decide +kernel
theorem dX7_joins_204 : decode cX7_joins 204 = .ok (.if_icmp .ne 8, 3) := by decide +kernel
theorem dX7_joins_207 : decode cX7_joins 207 = .ok (.iload 5, 2) := by decide +kernel
theorem dX7_joins_209 : decode cX7_joins 209 = .ok (.goto 5, 3) := by decide +kernel
theorem dX7_joins_212 : decode cX7_joins 212 = .ok (.iload 7, 2) := by decide +kernel
theorem dX7_joins_214 : decode cX7_joins 214 = .ok (.istore_n 3, 1) := by decide +kernel
theorem dX7_joins_215 : decode cX7_joins 215 = .ok (.iload 7, 2) := by decide +kernel
theorem dX7_joins_217 : decode cX7_joins 217 = .ok (.iconst (-1), 1) := by decide +kernel
theorem dX7_joins_218 : decode cX7_joins 218 = .ok (.if_icmp .eq 9, 3) := by decide +kernel
theorem dX7_joins_221 : decode cX7_joins 221 = .ok (.iload 8, 2) := by decide +kernel
theorem dX7_joins_223 : decode cX7_joins 223 = .ok (.iconst (-1), 1) := by decide +kernel
theorem dX7_joins_224 : decode cX7_joins 224 = .ok (.if_icmp .ne 8, 3) := by decide +kernel
theorem dX7_joins_227 : decode cX7_joins 227 = .ok (.iload 5, 2) := by decide +kernel
theorem dX7_joins_229 : decode cX7_joins 229 = .ok (.goto 5, 3) := by decide +kernel
theorem dX7_joins_232 : decode cX7_joins 232 = .ok (.iload 8, 2) := by decide +kernel
theorem dX7_joins_234 : decode cX7_joins 234 = .ok (.istore 4, 2) := by decide +kernel
theorem dX7_joins_236 : decode cX7_joins 236 = .ok (.goto (-231), 3) := by decide +kernel
theorem dX7_joins_239 : decode cX7_joins 239 = .ok (.aload_n 0, 1) := by decide +kernel
theorem dX7_joins_240 : decode cX7_joins 240 = .ok (.iconst 1, 1) := by decide +kernel
theorem dX7_joins_241 : decode cX7_joins 241 = .ok (.putfield 65, 3) := by decide +kernel
theorem dX7_joins_244 : decode cX7_joins 244 = .ok (.return_, 1) := by decide +kernel
theorem dX7_pointsTo_0 : decode cX7_pointsTo 0 = .ok (.aload_n 0, 1) := by decide +kernel
theorem dX7_pointsTo_1 : decode cX7_pointsTo 1 = .ok (.getfield 31, 3) := by decide +kernel
theorem dX7_pointsTo_4 : decode cX7_pointsTo 4 = .ok (.iload_n 1, 1) := by decide +kernel
theorem dX7_pointsTo_5 : decode cX7_pointsTo 5 = .ok (.iaload, 1) := by decide +kernel
theorem dX7_pointsTo_6 : decode cX7_pointsTo 6 = .ok (.iconst (-1), 1) := by decide +kernel
theorem dX7_pointsTo_7 : decode cX7_pointsTo 7 = .ok (.if_icmp .ne 18, 3) := by decide +kernel
theorem dX7_pointsTo_10 : decode cX7_pointsTo 10 = .ok (.aload_n 0, 1) := by decide +kernel
theorem dX7_pointsTo_11 : decode cX7_pointsTo 11 = .ok (.getfield 31, 3) := by decide +kernel
theorem dX7_pointsTo_14 : decode cX7_pointsTo 14 = .ok (.iload_n 1, 1) := by decide +kernel
theorem dX7_pointsTo_15 : decode cX7_pointsTo 15 = .ok (.iload_n 2, 1) := by decide +kernel
theorem dX7_pointsTo_16 : decode cX7_pointsTo 16 = .ok (.iastore, 1) := by decide +kernel
theorem dX7_pointsTo_17 : decode cX7_pointsTo 17 = .ok (.aload_n 0, 1) := by decide +kernel
theorem dX7_pointsTo_18 : decode cX7_pointsTo 18 = .ok (.iconst 1, 1) := by decide +kernel
theorem dX7_pointsTo_19 : decode cX7_pointsTo 19 = .ok (.putfield 65, 3) := by decide +kernel
theorem dX7_pointsTo_22 : decode cX7_pointsTo 22 = .ok (.goto 24, 3) := by decide +kernel
theorem dX7_pointsTo_25 : decode cX7_pointsTo 25 = .ok (.aload_n 0, 1) := by decide +kernel
theorem dX7_pointsTo_26 : decode cX7_pointsTo 26 = .ok (.getfield 31, 3) := by decide +kernel
theorem dX7_pointsTo_29 : decode cX7_pointsTo 29 = .ok (.iload_n 1, 1) := by decide +kernel
theorem dX7_pointsTo_30 : decode cX7_pointsTo 30 = .ok (.iaload, 1) := by decide +kernel
theorem dX7_pointsTo_31 : decode cX7_pointsTo 31 = .ok (.iload_n 2, 1) := by decide +kernel
theorem dX7_pointsTo_32 : decode cX7_pointsTo 32 = .ok (.if_icmp .eq 14, 3) := by decide +kernel
theorem dX7_pointsTo_35 : decode cX7_pointsTo 35 = .ok (.aload_n 0, 1) := by decide +kernel
theorem dX7_pointsTo_36 : decode cX7_pointsTo 36 = .ok (.aload_n 0, 1) := by decide +kernel
theorem dX7_pointsTo_37 : decode cX7_pointsTo 37 = .ok (.getfield 31, 3) := by decide +kernel
theorem dX7_pointsTo_40 : decode cX7_pointsTo 40 = .ok (.iload_n 1, 1) := by decide +kernel
theorem dX7_pointsTo_41 : decode cX7_pointsTo 41 = .ok (.iaload, 1) := by decide +kernel
theorem dX7_pointsTo_42 : decode cX7_pointsTo 42 = .ok (.iload_n 2, 1) := by decide +kernel
theorem dX7_pointsTo_43 : decode cX7_pointsTo 43 = .ok (.invokevirtual 90, 3) := by decide +kernel
theorem dX7_pointsTo_46 : decode cX7_pointsTo 46 = .ok (.return_, 1) := by decide +kernel
theorem dX7_joinsBy_0 : decode cX7_joinsBy 0 = .ok (.aload_n 0, 1) := by decide +kernel
theorem dX7_joinsBy_1 : decode cX7_joinsBy 1 = .ok (.getfield 28, 3) := by decide +kernel
theorem dX7_joinsBy_4 : decode cX7_joinsBy 4 = .ok (.aload_n 0, 1) := by decide +kernel
theorem dX7_joinsBy_5 : decode cX7_joinsBy 5 = .ok (.iload_n 1, 1) := by decide +kernel
theorem dX7_joinsBy_6 : decode cX7_joinsBy 6 = .ok (.invokevirtual 69, 3) := by decide +kernel
theorem dX7_joinsBy_9 : decode cX7_joinsBy 9 = .ok (.iaload, 1) := by decide +kernel
theorem dX7_joinsBy_10 : decode cX7_joinsBy 10 = .ok (.istore_n 2, 1) := by decide +kernel
theorem dX7_joinsBy_11 : decode cX7_joinsBy 11 = .ok (.aload_n 0, 1) := by decide +kernel
theorem dX7_joinsBy_12 : decode cX7_joinsBy 12 = .ok (.getfield 28, 3) := by decide +kernel
theorem dX7_joinsBy_15 : decode cX7_joinsBy 15 = .ok (.aload_n 0, 1) := by decide +kernel
theorem dX7_joinsBy_16 : decode cX7_joinsBy 16 = .ok (.iload_n 1, 1) := by decide +kernel
theorem dX7_joinsBy_17 : decode cX7_joinsBy 17 = .ok (.invokevirtual 72, 3) := by decide +kernel
theorem dX7_joinsBy_20 : decode cX7_joinsBy 20 = .ok (.iaload, 1) := by decide +kernel
theorem dX7_joinsBy_21 : decode cX7_joinsBy 21 = .ok (.istore_n 3, 1) := by decide +kernel
theorem dX7_joinsBy_22 : decode cX7_joinsBy 22 = .ok (.aload_n 0, 1) := by decide +kernel
theorem dX7_joinsBy_23 : decode cX7_joinsBy 23 = .ok (.iload_n 1, 1) := by decide +kernel
theorem dX7_joinsBy_24 : decode cX7_joinsBy 24 = .ok (.invokevirtual 75, 3) := by decide +kernel
theorem dX7_joinsBy_27 : decode cX7_joinsBy 27 = .ok (.tableswitch 102 0 2 #[25, 34, 58], 25) := by decide +kernel
theorem dX7_joinsBy_52 : decode cX7_joinsBy 52 = .ok (.aload_n 0, 1) := by decide +kernel
theorem dX7_joinsBy_53 : decode cX7_joinsBy 53 = .ok (.iload_n 2, 1) := by decide +kernel
theorem dX7_joinsBy_54 : decode cX7_joinsBy 54 = .ok (.iload_n 3, 1) := by decide +kernel
theorem dX7_joinsBy_55 : decode cX7_joinsBy 55 = .ok (.invokevirtual 93, 3) := by decide +kernel
theorem dX7_joinsBy_58 : decode cX7_joinsBy 58 = .ok (.goto 107, 3) := by decide +kernel
theorem dX7_joinsBy_61 : decode cX7_joinsBy 61 = .ok (.aload_n 0, 1) := by decide +kernel
theorem dX7_joinsBy_62 : decode cX7_joinsBy 62 = .ok (.getfield 31, 3) := by decide +kernel
theorem dX7_joinsBy_65 : decode cX7_joinsBy 65 = .ok (.iload_n 3, 1) := by decide +kernel
theorem dX7_joinsBy_66 : decode cX7_joinsBy 66 = .ok (.iaload, 1) := by decide +kernel
theorem dX7_joinsBy_67 : decode cX7_joinsBy 67 = .ok (.iconst (-1), 1) := by decide +kernel
theorem dX7_joinsBy_68 : decode cX7_joinsBy 68 = .ok (.if_icmp .eq 97, 3) := by decide +kernel
theorem dX7_joinsBy_71 : decode cX7_joinsBy 71 = .ok (.aload_n 0, 1) := by decide +kernel
theorem dX7_joinsBy_72 : decode cX7_joinsBy 72 = .ok (.iload_n 2, 1) := by decide +kernel
theorem dX7_joinsBy_73 : decode cX7_joinsBy 73 = .ok (.aload_n 0, 1) := by decide +kernel
theorem dX7_joinsBy_74 : decode cX7_joinsBy 74 = .ok (.getfield 31, 3) := by decide +kernel
theorem dX7_joinsBy_77 : decode cX7_joinsBy 77 = .ok (.iload_n 3, 1) := by decide +kernel
theorem dX7_joinsBy_78 : decode cX7_joinsBy 78 = .ok (.iaload, 1) := by decide +kernel
theorem dX7_joinsBy_79 : decode cX7_joinsBy 79 = .ok (.invokevirtual 93, 3) := by decide +kernel
theorem dX7_joinsBy_82 : decode cX7_joinsBy 82 = .ok (.goto 83, 3) := by decide +kernel
theorem dX7_joinsBy_85 : decode cX7_joinsBy 85 = .ok (.aload_n 0, 1) := by decide +kernel
theorem dX7_joinsBy_86 : decode cX7_joinsBy 86 = .ok (.getfield 31, 3) := by decide +kernel
theorem dX7_joinsBy_89 : decode cX7_joinsBy 89 = .ok (.iload_n 3, 1) := by decide +kernel
theorem dX7_joinsBy_90 : decode cX7_joinsBy 90 = .ok (.iaload, 1) := by decide +kernel
theorem dX7_joinsBy_91 : decode cX7_joinsBy 91 = .ok (.iconst (-1), 1) := by decide +kernel
theorem dX7_joinsBy_92 : decode cX7_joinsBy 92 = .ok (.if_icmp .eq 73, 3) := by decide +kernel
theorem dX7_joinsBy_95 : decode cX7_joinsBy 95 = .ok (.aload_n 0, 1) := by decide +kernel
theorem dX7_joinsBy_96 : decode cX7_joinsBy 96 = .ok (.getfield 31, 3) := by decide +kernel
theorem dX7_joinsBy_99 : decode cX7_joinsBy 99 = .ok (.aload_n 0, 1) := by decide +kernel
theorem dX7_joinsBy_100 : decode cX7_joinsBy 100 = .ok (.getfield 31, 3) := by decide +kernel
theorem dX7_joinsBy_103 : decode cX7_joinsBy 103 = .ok (.iload_n 3, 1) := by decide +kernel
theorem dX7_joinsBy_104 : decode cX7_joinsBy 104 = .ok (.iaload, 1) := by decide +kernel
theorem dX7_joinsBy_105 : decode cX7_joinsBy 105 = .ok (.iaload, 1) := by decide +kernel
theorem dX7_joinsBy_106 : decode cX7_joinsBy 106 = .ok (.iconst (-1), 1) := by decide +kernel
theorem dX7_joinsBy_107 : decode cX7_joinsBy 107 = .ok (.if_icmp .eq 58, 3) := by decide +kernel
theorem dX7_joinsBy_110 : decode cX7_joinsBy 110 = .ok (.aload_n 0, 1) := by decide +kernel
theorem dX7_joinsBy_111 : decode cX7_joinsBy 111 = .ok (.iload_n 2, 1) := by decide +kernel
theorem dX7_joinsBy_112 : decode cX7_joinsBy 112 = .ok (.aload_n 0, 1) := by decide +kernel
theorem dX7_joinsBy_113 : decode cX7_joinsBy 113 = .ok (.getfield 31, 3) := by decide +kernel
theorem dX7_joinsBy_116 : decode cX7_joinsBy 116 = .ok (.aload_n 0, 1) := by decide +kernel
theorem dX7_joinsBy_117 : decode cX7_joinsBy 117 = .ok (.getfield 31, 3) := by decide +kernel
theorem dX7_joinsBy_120 : decode cX7_joinsBy 120 = .ok (.iload_n 3, 1) := by decide +kernel
theorem dX7_joinsBy_121 : decode cX7_joinsBy 121 = .ok (.iaload, 1) := by decide +kernel
theorem dX7_joinsBy_122 : decode cX7_joinsBy 122 = .ok (.iaload, 1) := by decide +kernel
theorem dX7_joinsBy_123 : decode cX7_joinsBy 123 = .ok (.invokevirtual 93, 3) := by decide +kernel
theorem dX7_joinsBy_126 : decode cX7_joinsBy 126 = .ok (.goto 39, 3) := by decide +kernel
theorem dX7_joinsBy_129 : decode cX7_joinsBy 129 = .ok (.aload_n 0, 1) := by decide +kernel
theorem dX7_joinsBy_130 : decode cX7_joinsBy 130 = .ok (.getfield 31, 3) := by decide +kernel
theorem dX7_joinsBy_133 : decode cX7_joinsBy 133 = .ok (.iload_n 2, 1) := by decide +kernel
theorem dX7_joinsBy_134 : decode cX7_joinsBy 134 = .ok (.iaload, 1) := by decide +kernel
theorem dX7_joinsBy_135 : decode cX7_joinsBy 135 = .ok (.iconst (-1), 1) := by decide +kernel
theorem dX7_joinsBy_136 : decode cX7_joinsBy 136 = .ok (.if_icmp .eq 29, 3) := by decide +kernel
theorem dX7_joinsBy_139 : decode cX7_joinsBy 139 = .ok (.aload_n 0, 1) := by decide +kernel
theorem dX7_joinsBy_140 : decode cX7_joinsBy 140 = .ok (.getfield 31, 3) := by decide +kernel
theorem dX7_joinsBy_143 : decode cX7_joinsBy 143 = .ok (.iload_n 3, 1) := by decide +kernel
theorem dX7_joinsBy_144 : decode cX7_joinsBy 144 = .ok (.iaload, 1) := by decide +kernel
theorem dX7_joinsBy_145 : decode cX7_joinsBy 145 = .ok (.iconst (-1), 1) := by decide +kernel
theorem dX7_joinsBy_146 : decode cX7_joinsBy 146 = .ok (.if_icmp .eq 19, 3) := by decide +kernel
theorem dX7_joinsBy_149 : decode cX7_joinsBy 149 = .ok (.aload_n 0, 1) := by decide +kernel
theorem dX7_joinsBy_150 : decode cX7_joinsBy 150 = .ok (.aload_n 0, 1) := by decide +kernel
theorem dX7_joinsBy_151 : decode cX7_joinsBy 151 = .ok (.getfield 31, 3) := by decide +kernel
theorem dX7_joinsBy_154 : decode cX7_joinsBy 154 = .ok (.iload_n 2, 1) := by decide +kernel
theorem dX7_joinsBy_155 : decode cX7_joinsBy 155 = .ok (.iaload, 1) := by decide +kernel
theorem dX7_joinsBy_156 : decode cX7_joinsBy 156 = .ok (.aload_n 0, 1) := by decide +kernel
theorem dX7_joinsBy_157 : decode cX7_joinsBy 157 = .ok (.getfield 31, 3) := by decide +kernel
theorem dX7_joinsBy_160 : decode cX7_joinsBy 160 = .ok (.iload_n 3, 1) := by decide +kernel
theorem dX7_joinsBy_161 : decode cX7_joinsBy 161 = .ok (.iaload, 1) := by decide +kernel
theorem dX7_joinsBy_162 : decode cX7_joinsBy 162 = .ok (.invokevirtual 93, 3) := by decide +kernel
theorem dX7_joinsBy_165 : decode cX7_joinsBy 165 = .ok (.return_, 1) := by decide +kernel
theorem dX7_laysCoarse_0 : decode cX7_laysCoarse 0 = .ok (.iconst 0, 1) := by decide +kernel
theorem dX7_laysCoarse_1 : decode cX7_laysCoarse 1 = .ok (.istore_n 2, 1) := by decide +kernel
theorem dX7_laysCoarse_2 : decode cX7_laysCoarse 2 = .ok (.iload_n 2, 1) := by decide +kernel
theorem dX7_laysCoarse_3 : decode cX7_laysCoarse 3 = .ok (.bipush 10, 2) := by decide +kernel
theorem dX7_laysCoarse_5 : decode cX7_laysCoarse 5 = .ok (.if_icmp .ge 23, 3) := by decide +kernel
theorem dX7_laysCoarse_8 : decode cX7_laysCoarse 8 = .ok (.aload_n 0, 1) := by decide +kernel
theorem dX7_laysCoarse_9 : decode cX7_laysCoarse 9 = .ok (.getfield 28, 3) := by decide +kernel
theorem dX7_laysCoarse_12 : decode cX7_laysCoarse 12 = .ok (.iload_n 2, 1) := by decide +kernel
theorem dX7_laysCoarse_13 : decode cX7_laysCoarse 13 = .ok (.iload_n 2, 1) := by decide +kernel
theorem dX7_laysCoarse_14 : decode cX7_laysCoarse 14 = .ok (.iastore, 1) := by decide +kernel
theorem dX7_laysCoarse_15 : decode cX7_laysCoarse 15 = .ok (.aload_n 0, 1) := by decide +kernel
theorem dX7_laysCoarse_16 : decode cX7_laysCoarse 16 = .ok (.getfield 31, 3) := by decide +kernel
theorem dX7_laysCoarse_19 : decode cX7_laysCoarse 19 = .ok (.iload_n 2, 1) := by decide +kernel
theorem dX7_laysCoarse_20 : decode cX7_laysCoarse 20 = .ok (.iconst (-1), 1) := by decide +kernel
theorem dX7_laysCoarse_21 : decode cX7_laysCoarse 21 = .ok (.iastore, 1) := by decide +kernel
theorem dX7_laysCoarse_22 : decode cX7_laysCoarse 22 = .ok (.iinc 2 1, 3) := by decide +kernel
theorem dX7_laysCoarse_25 : decode cX7_laysCoarse 25 = .ok (.goto (-23), 3) := by decide +kernel
theorem dX7_laysCoarse_28 : decode cX7_laysCoarse 28 = .ok (.aload_n 0, 1) := by decide +kernel
theorem dX7_laysCoarse_29 : decode cX7_laysCoarse 29 = .ok (.iconst 1, 1) := by decide +kernel
theorem dX7_laysCoarse_30 : decode cX7_laysCoarse 30 = .ok (.putfield 65, 3) := by decide +kernel
theorem dX7_laysCoarse_33 : decode cX7_laysCoarse 33 = .ok (.aload_n 0, 1) := by decide +kernel
theorem dX7_laysCoarse_34 : decode cX7_laysCoarse 34 = .ok (.getfield 65, 3) := by decide +kernel
theorem dX7_laysCoarse_37 : decode cX7_laysCoarse 37 = .ok (.ifCond .eq 39, 3) := by decide +kernel
theorem dX7_laysCoarse_40 : decode cX7_laysCoarse 40 = .ok (.aload_n 0, 1) := by decide +kernel
theorem dX7_laysCoarse_41 : decode cX7_laysCoarse 41 = .ok (.iconst 0, 1) := by decide +kernel
theorem dX7_laysCoarse_42 : decode cX7_laysCoarse 42 = .ok (.putfield 65, 3) := by decide +kernel
theorem dX7_laysCoarse_45 : decode cX7_laysCoarse 45 = .ok (.iconst 0, 1) := by decide +kernel
theorem dX7_laysCoarse_46 : decode cX7_laysCoarse 46 = .ok (.istore_n 2, 1) := by decide +kernel
theorem dX7_laysCoarse_47 : decode cX7_laysCoarse 47 = .ok (.iload_n 2, 1) := by decide +kernel
theorem dX7_laysCoarse_48 : decode cX7_laysCoarse 48 = .ok (.aload_n 0, 1) := by decide +kernel
theorem dX7_laysCoarse_49 : decode cX7_laysCoarse 49 = .ok (.getfield 7, 3) := by decide +kernel
theorem dX7_laysCoarse_52 : decode cX7_laysCoarse 52 = .ok (.iconst 0, 1) := by decide +kernel
theorem dX7_laysCoarse_53 : decode cX7_laysCoarse 53 = .ok (.iaload, 1) := by decide +kernel
theorem dX7_laysCoarse_54 : decode cX7_laysCoarse 54 = .ok (.if_icmp .ge 19, 3) := by decide +kernel
theorem dX7_laysCoarse_57 : decode cX7_laysCoarse 57 = .ok (.iload_n 2, 1) := by decide +kernel
theorem dX7_laysCoarse_58 : decode cX7_laysCoarse 58 = .ok (.iload_n 1, 1) := by decide +kernel
theorem dX7_laysCoarse_59 : decode cX7_laysCoarse 59 = .ok (.if_icmp .eq 8, 3) := by decide +kernel
theorem dX7_laysCoarse_62 : decode cX7_laysCoarse 62 = .ok (.aload_n 0, 1) := by decide +kernel
theorem dX7_laysCoarse_63 : decode cX7_laysCoarse 63 = .ok (.iload_n 2, 1) := by decide +kernel
theorem dX7_laysCoarse_64 : decode cX7_laysCoarse 64 = .ok (.invokevirtual 96, 3) := by decide +kernel
theorem dX7_laysCoarse_67 : decode cX7_laysCoarse 67 = .ok (.iinc 2 1, 3) := by decide +kernel
theorem dX7_laysCoarse_70 : decode cX7_laysCoarse 70 = .ok (.goto (-23), 3) := by decide +kernel
theorem dX7_laysCoarse_73 : decode cX7_laysCoarse 73 = .ok (.goto (-40), 3) := by decide +kernel
theorem dX7_laysCoarse_76 : decode cX7_laysCoarse 76 = .ok (.return_, 1) := by decide +kernel
theorem dX7_groupSet_0 : decode cX7_groupSet 0 = .ok (.iconst 0, 1) := by decide +kernel
theorem dX7_groupSet_1 : decode cX7_groupSet 1 = .ok (.istore_n 2, 1) := by decide +kernel
theorem dX7_groupSet_2 : decode cX7_groupSet 2 = .ok (.iconst 0, 1) := by decide +kernel
theorem dX7_groupSet_3 : decode cX7_groupSet 3 = .ok (.istore_n 3, 1) := by decide +kernel
theorem dX7_groupSet_4 : decode cX7_groupSet 4 = .ok (.iload_n 3, 1) := by decide +kernel
theorem dX7_groupSet_5 : decode cX7_groupSet 5 = .ok (.bipush 10, 2) := by decide +kernel
theorem dX7_groupSet_7 : decode cX7_groupSet 7 = .ok (.if_icmp .ge 29, 3) := by decide +kernel
theorem dX7_groupSet_10 : decode cX7_groupSet 10 = .ok (.iload_n 2, 1) := by decide +kernel
theorem dX7_groupSet_11 : decode cX7_groupSet 11 = .ok (.aload_n 0, 1) := by decide +kernel
theorem dX7_groupSet_12 : decode cX7_groupSet 12 = .ok (.getfield 28, 3) := by decide +kernel
theorem dX7_groupSet_15 : decode cX7_groupSet 15 = .ok (.iload_n 3, 1) := by decide +kernel
theorem dX7_groupSet_16 : decode cX7_groupSet 16 = .ok (.iaload, 1) := by decide +kernel
theorem dX7_groupSet_17 : decode cX7_groupSet 17 = .ok (.iload_n 1, 1) := by decide +kernel
theorem dX7_groupSet_18 : decode cX7_groupSet 18 = .ok (.if_icmp .ne 9, 3) := by decide +kernel
theorem dX7_groupSet_21 : decode cX7_groupSet 21 = .ok (.iconst 1, 1) := by decide +kernel
theorem dX7_groupSet_22 : decode cX7_groupSet 22 = .ok (.iload_n 3, 1) := by decide +kernel
theorem dX7_groupSet_23 : decode cX7_groupSet 23 = .ok (.ishl, 1) := by decide +kernel
theorem dX7_groupSet_24 : decode cX7_groupSet 24 = .ok (.goto 4, 3) := by decide +kernel
theorem dX7_groupSet_27 : decode cX7_groupSet 27 = .ok (.iconst 0, 1) := by decide +kernel
theorem dX7_groupSet_28 : decode cX7_groupSet 28 = .ok (.ior, 1) := by decide +kernel
theorem dX7_groupSet_29 : decode cX7_groupSet 29 = .ok (.istore_n 2, 1) := by decide +kernel
theorem dX7_groupSet_30 : decode cX7_groupSet 30 = .ok (.iinc 3 1, 3) := by decide +kernel
theorem dX7_groupSet_33 : decode cX7_groupSet 33 = .ok (.goto (-29), 3) := by decide +kernel
theorem dX7_groupSet_36 : decode cX7_groupSet 36 = .ok (.iload_n 2, 1) := by decide +kernel
theorem dX7_groupSet_37 : decode cX7_groupSet 37 = .ok (.ireturn, 1) := by decide +kernel
theorem dX7_coarseOf_0 : decode cX7_coarseOf 0 = .ok (.aload_n 0, 1) := by decide +kernel
theorem dX7_coarseOf_1 : decode cX7_coarseOf 1 = .ok (.getfield 31, 3) := by decide +kernel
theorem dX7_coarseOf_4 : decode cX7_coarseOf 4 = .ok (.aload_n 0, 1) := by decide +kernel
theorem dX7_coarseOf_5 : decode cX7_coarseOf 5 = .ok (.getfield 28, 3) := by decide +kernel
theorem dX7_coarseOf_8 : decode cX7_coarseOf 8 = .ok (.iload_n 1, 1) := by decide +kernel
theorem dX7_coarseOf_9 : decode cX7_coarseOf 9 = .ok (.iaload, 1) := by decide +kernel
theorem dX7_coarseOf_10 : decode cX7_coarseOf 10 = .ok (.iaload, 1) := by decide +kernel
theorem dX7_coarseOf_11 : decode cX7_coarseOf 11 = .ok (.istore_n 2, 1) := by decide +kernel
theorem dX7_coarseOf_12 : decode cX7_coarseOf 12 = .ok (.iload_n 2, 1) := by decide +kernel
theorem dX7_coarseOf_13 : decode cX7_coarseOf 13 = .ok (.iconst (-1), 1) := by decide +kernel
theorem dX7_coarseOf_14 : decode cX7_coarseOf 14 = .ok (.if_icmp .ne 7, 3) := by decide +kernel
theorem dX7_coarseOf_17 : decode cX7_coarseOf 17 = .ok (.iconst 0, 1) := by decide +kernel
theorem dX7_coarseOf_18 : decode cX7_coarseOf 18 = .ok (.goto 8, 3) := by decide +kernel
theorem dX7_coarseOf_21 : decode cX7_coarseOf 21 = .ok (.aload_n 0, 1) := by decide +kernel
theorem dX7_coarseOf_22 : decode cX7_coarseOf 22 = .ok (.iload_n 2, 1) := by decide +kernel
theorem dX7_coarseOf_23 : decode cX7_coarseOf 23 = .ok (.invokevirtual 99, 3) := by decide +kernel
theorem dX7_coarseOf_26 : decode cX7_coarseOf 26 = .ok (.ireturn, 1) := by decide +kernel
theorem dX7_writes_0 : decode cX7_writes 0 = .ok (.aload_n 0, 1) := by decide +kernel
theorem dX7_writes_1 : decode cX7_writes 1 = .ok (.iload_n 1, 1) := by decide +kernel
theorem dX7_writes_2 : decode cX7_writes 2 = .ok (.invokevirtual 75, 3) := by decide +kernel
theorem dX7_writes_5 : decode cX7_writes 5 = .ok (.iconst 3, 1) := by decide +kernel
theorem dX7_writes_6 : decode cX7_writes 6 = .ok (.if_icmp .ne 16, 3) := by decide +kernel
theorem dX7_writes_9 : decode cX7_writes 9 = .ok (.aload_n 0, 1) := by decide +kernel
theorem dX7_writes_10 : decode cX7_writes 10 = .ok (.getfield 25, 3) := by decide +kernel
theorem dX7_writes_13 : decode cX7_writes 13 = .ok (.aload_n 0, 1) := by decide +kernel
theorem dX7_writes_14 : decode cX7_writes 14 = .ok (.iload_n 1, 1) := by decide +kernel
theorem dX7_writes_15 : decode cX7_writes 15 = .ok (.invokevirtual 69, 3) := by decide +kernel
theorem dX7_writes_18 : decode cX7_writes 18 = .ok (.iaload, 1) := by decide +kernel
theorem dX7_writes_19 : decode cX7_writes 19 = .ok (.goto 10, 3) := by decide +kernel
theorem dX7_writes_22 : decode cX7_writes 22 = .ok (.iconst 1, 1) := by decide +kernel
theorem dX7_writes_23 : decode cX7_writes 23 = .ok (.aload_n 0, 1) := by decide +kernel
theorem dX7_writes_24 : decode cX7_writes 24 = .ok (.iload_n 1, 1) := by decide +kernel
theorem dX7_writes_25 : decode cX7_writes 25 = .ok (.invokevirtual 69, 3) := by decide +kernel
theorem dX7_writes_28 : decode cX7_writes 28 = .ok (.ishl, 1) := by decide +kernel
theorem dX7_writes_29 : decode cX7_writes 29 = .ok (.ireturn, 1) := by decide +kernel
theorem dX7_readBy_0 : decode cX7_readBy 0 = .ok (.iconst 1, 1) := by decide +kernel
theorem dX7_readBy_1 : decode cX7_readBy 1 = .ok (.aload_n 0, 1) := by decide +kernel
theorem dX7_readBy_2 : decode cX7_readBy 2 = .ok (.iload_n 1, 1) := by decide +kernel
theorem dX7_readBy_3 : decode cX7_readBy 3 = .ok (.invokevirtual 72, 3) := by decide +kernel
theorem dX7_readBy_6 : decode cX7_readBy 6 = .ok (.ishl, 1) := by decide +kernel
theorem dX7_readBy_7 : decode cX7_readBy 7 = .ok (.istore_n 2, 1) := by decide +kernel
theorem dX7_readBy_8 : decode cX7_readBy 8 = .ok (.aload_n 0, 1) := by decide +kernel
theorem dX7_readBy_9 : decode cX7_readBy 9 = .ok (.iload_n 1, 1) := by decide +kernel
theorem dX7_readBy_10 : decode cX7_readBy 10 = .ok (.invokevirtual 75, 3) := by decide +kernel
theorem dX7_readBy_13 : decode cX7_readBy 13 = .ok (.tableswitch 44 0 2 #[27, 29, 31], 27) := by decide +kernel
theorem dX7_readBy_40 : decode cX7_readBy 40 = .ok (.iconst 0, 1) := by decide +kernel
theorem dX7_readBy_41 : decode cX7_readBy 41 = .ok (.ireturn, 1) := by decide +kernel
theorem dX7_readBy_42 : decode cX7_readBy 42 = .ok (.iload_n 2, 1) := by decide +kernel
theorem dX7_readBy_43 : decode cX7_readBy 43 = .ok (.ireturn, 1) := by decide +kernel
theorem dX7_readBy_44 : decode cX7_readBy 44 = .ok (.iload_n 2, 1) := by decide +kernel
theorem dX7_readBy_45 : decode cX7_readBy 45 = .ok (.aload_n 0, 1) := by decide +kernel
theorem dX7_readBy_46 : decode cX7_readBy 46 = .ok (.getfield 25, 3) := by decide +kernel
theorem dX7_readBy_49 : decode cX7_readBy 49 = .ok (.aload_n 0, 1) := by decide +kernel
theorem dX7_readBy_50 : decode cX7_readBy 50 = .ok (.iload_n 1, 1) := by decide +kernel
theorem dX7_readBy_51 : decode cX7_readBy 51 = .ok (.invokevirtual 72, 3) := by decide +kernel
theorem dX7_readBy_54 : decode cX7_readBy 54 = .ok (.iaload, 1) := by decide +kernel
theorem dX7_readBy_55 : decode cX7_readBy 55 = .ok (.ior, 1) := by decide +kernel
theorem dX7_readBy_56 : decode cX7_readBy 56 = .ok (.ireturn, 1) := by decide +kernel
theorem dX7_readBy_57 : decode cX7_readBy 57 = .ok (.iload_n 2, 1) := by decide +kernel
theorem dX7_readBy_58 : decode cX7_readBy 58 = .ok (.iconst 1, 1) := by decide +kernel
theorem dX7_readBy_59 : decode cX7_readBy 59 = .ok (.aload_n 0, 1) := by decide +kernel
theorem dX7_readBy_60 : decode cX7_readBy 60 = .ok (.iload_n 1, 1) := by decide +kernel
theorem dX7_readBy_61 : decode cX7_readBy 61 = .ok (.invokevirtual 69, 3) := by decide +kernel
theorem dX7_readBy_64 : decode cX7_readBy 64 = .ok (.ishl, 1) := by decide +kernel
theorem dX7_readBy_65 : decode cX7_readBy 65 = .ok (.ior, 1) := by decide +kernel
theorem dX7_readBy_66 : decode cX7_readBy 66 = .ok (.ireturn, 1) := by decide +kernel
theorem dX7_ofLine_0 : decode cX7_ofLine 0 = .ok (.iload_n 2, 1) := by decide +kernel
theorem dX7_ofLine_1 : decode cX7_ofLine 1 = .ok (.ifCond .ne 11, 3) := by decide +kernel
theorem dX7_ofLine_4 : decode cX7_ofLine 4 = .ok (.aload_n 0, 1) := by decide +kernel
theorem dX7_ofLine_5 : decode cX7_ofLine 5 = .ok (.iload_n 1, 1) := by decide +kernel
theorem dX7_ofLine_6 : decode cX7_ofLine 6 = .ok (.invokevirtual 75, 3) := by decide +kernel
theorem dX7_ofLine_9 : decode cX7_ofLine 9 = .ok (.goto 47, 3) := by decide +kernel
theorem dX7_ofLine_12 : decode cX7_ofLine 12 = .ok (.iload_n 2, 1) := by decide +kernel
theorem dX7_ofLine_13 : decode cX7_ofLine 13 = .ok (.iconst 1, 1) := by decide +kernel
theorem dX7_ofLine_14 : decode cX7_ofLine 14 = .ok (.if_icmp .ne 11, 3) := by decide +kernel
theorem dX7_ofLine_17 : decode cX7_ofLine 17 = .ok (.aload_n 0, 1) := by decide +kernel
theorem dX7_ofLine_18 : decode cX7_ofLine 18 = .ok (.iload_n 1, 1) := by decide +kernel
theorem dX7_ofLine_19 : decode cX7_ofLine 19 = .ok (.invokevirtual 69, 3) := by decide +kernel
theorem dX7_ofLine_22 : decode cX7_ofLine 22 = .ok (.goto 34, 3) := by decide +kernel
theorem dX7_ofLine_25 : decode cX7_ofLine 25 = .ok (.iload_n 2, 1) := by decide +kernel
theorem dX7_ofLine_26 : decode cX7_ofLine 26 = .ok (.iconst 2, 1) := by decide +kernel
theorem dX7_ofLine_27 : decode cX7_ofLine 27 = .ok (.if_icmp .ne 11, 3) := by decide +kernel
theorem dX7_ofLine_30 : decode cX7_ofLine 30 = .ok (.aload_n 0, 1) := by decide +kernel
theorem dX7_ofLine_31 : decode cX7_ofLine 31 = .ok (.iload_n 1, 1) := by decide +kernel
theorem dX7_ofLine_32 : decode cX7_ofLine 32 = .ok (.invokevirtual 72, 3) := by decide +kernel
theorem dX7_ofLine_35 : decode cX7_ofLine 35 = .ok (.goto 21, 3) := by decide +kernel
theorem dX7_ofLine_38 : decode cX7_ofLine 38 = .ok (.iload_n 2, 1) := by decide +kernel
theorem dX7_ofLine_39 : decode cX7_ofLine 39 = .ok (.iconst 3, 1) := by decide +kernel
theorem dX7_ofLine_40 : decode cX7_ofLine 40 = .ok (.if_icmp .ne 11, 3) := by decide +kernel
theorem dX7_ofLine_43 : decode cX7_ofLine 43 = .ok (.aload_n 0, 1) := by decide +kernel
theorem dX7_ofLine_44 : decode cX7_ofLine 44 = .ok (.iload_n 1, 1) := by decide +kernel
theorem dX7_ofLine_45 : decode cX7_ofLine 45 = .ok (.invokevirtual 102, 3) := by decide +kernel
theorem dX7_ofLine_48 : decode cX7_ofLine 48 = .ok (.goto 8, 3) := by decide +kernel
theorem dX7_ofLine_51 : decode cX7_ofLine 51 = .ok (.aload_n 0, 1) := by decide +kernel
theorem dX7_ofLine_52 : decode cX7_ofLine 52 = .ok (.iload_n 1, 1) := by decide +kernel
theorem dX7_ofLine_53 : decode cX7_ofLine 53 = .ok (.invokevirtual 105, 3) := by decide +kernel
theorem dX7_ofLine_56 : decode cX7_ofLine 56 = .ok (.ireturn, 1) := by decide +kernel
theorem dX7_of_0 : decode cX7_of 0 = .ok (.aload_n 0, 1) := by decide +kernel
theorem dX7_of_1 : decode cX7_of 1 = .ok (.iload_n 1, 1) := by decide +kernel
theorem dX7_of_2 : decode cX7_of 2 = .ok (.invokevirtual 62, 3) := by decide +kernel
theorem dX7_of_5 : decode cX7_of 5 = .ok (.ifCond .eq 12, 3) := by decide +kernel
theorem dX7_of_8 : decode cX7_of 8 = .ok (.iload_n 2, 1) := by decide +kernel
theorem dX7_of_9 : decode cX7_of 9 = .ok (.iconst 0, 1) := by decide +kernel
theorem dX7_of_10 : decode cX7_of 10 = .ok (.iconst 4, 1) := by decide +kernel
theorem dX7_of_11 : decode cX7_of 11 = .ok (.invokestatic 43, 3) := by decide +kernel
theorem dX7_of_14 : decode cX7_of 14 = .ok (.ifCond .ne 10, 3) := by decide +kernel
theorem dX7_of_17 : decode cX7_of 17 = .ok (.aload_n 0, 1) := by decide +kernel
theorem dX7_of_18 : decode cX7_of 18 = .ok (.bipush (-2), 2) := by decide +kernel
theorem dX7_of_20 : decode cX7_of 20 = .ok (.invokevirtual 51, 3) := by decide +kernel
theorem dX7_of_23 : decode cX7_of 23 = .ok (.ireturn, 1) := by decide +kernel
theorem dX7_of_24 : decode cX7_of 24 = .ok (.aload_n 0, 1) := by decide +kernel
theorem dX7_of_25 : decode cX7_of 25 = .ok (.iconst (-1), 1) := by decide +kernel
theorem dX7_of_26 : decode cX7_of 26 = .ok (.invokevirtual 108, 3) := by decide +kernel
theorem dX7_of_29 : decode cX7_of 29 = .ok (.aload_n 0, 1) := by decide +kernel
theorem dX7_of_30 : decode cX7_of 30 = .ok (.iload_n 1, 1) := by decide +kernel
theorem dX7_of_31 : decode cX7_of 31 = .ok (.iload_n 2, 1) := by decide +kernel
theorem dX7_of_32 : decode cX7_of 32 = .ok (.invokevirtual 111, 3) := by decide +kernel
theorem dX7_of_35 : decode cX7_of 35 = .ok (.ireturn, 1) := by decide +kernel
theorem dX7_clash_0 : decode cX7_clash 0 = .ok (.aload_n 0, 1) := by decide +kernel
theorem dX7_clash_1 : decode cX7_clash 1 = .ok (.iload_n 1, 1) := by decide +kernel
theorem dX7_clash_2 : decode cX7_clash 2 = .ok (.invokevirtual 62, 3) := by decide +kernel
theorem dX7_clash_5 : decode cX7_clash 5 = .ok (.ifCond .eq 16, 3) := by decide +kernel
theorem dX7_clash_8 : decode cX7_clash 8 = .ok (.aload_n 0, 1) := by decide +kernel
theorem dX7_clash_9 : decode cX7_clash 9 = .ok (.iload_n 2, 1) := by decide +kernel
theorem dX7_clash_10 : decode cX7_clash 10 = .ok (.invokevirtual 62, 3) := by decide +kernel
theorem dX7_clash_13 : decode cX7_clash 13 = .ok (.ifCond .eq 8, 3) := by decide +kernel
theorem dX7_clash_16 : decode cX7_clash 16 = .ok (.iload_n 1, 1) := by decide +kernel
theorem dX7_clash_17 : decode cX7_clash 17 = .ok (.iload_n 2, 1) := by decide +kernel
theorem dX7_clash_18 : decode cX7_clash 18 = .ok (.if_icmp .ne 10, 3) := by decide +kernel
theorem dX7_clash_21 : decode cX7_clash 21 = .ok (.aload_n 0, 1) := by decide +kernel
theorem dX7_clash_22 : decode cX7_clash 22 = .ok (.bipush (-2), 2) := by decide +kernel
theorem dX7_clash_24 : decode cX7_clash 24 = .ok (.invokevirtual 51, 3) := by decide +kernel
theorem dX7_clash_27 : decode cX7_clash 27 = .ok (.ireturn, 1) := by decide +kernel
theorem dX7_clash_28 : decode cX7_clash 28 = .ok (.aload_n 0, 1) := by decide +kernel
theorem dX7_clash_29 : decode cX7_clash 29 = .ok (.iconst (-1), 1) := by decide +kernel
theorem dX7_clash_30 : decode cX7_clash 30 = .ok (.invokevirtual 108, 3) := by decide +kernel
theorem dX7_clash_33 : decode cX7_clash 33 = .ok (.aload_n 0, 1) := by decide +kernel
theorem dX7_clash_34 : decode cX7_clash 34 = .ok (.iload_n 1, 1) := by decide +kernel
theorem dX7_clash_35 : decode cX7_clash 35 = .ok (.invokevirtual 102, 3) := by decide +kernel
theorem dX7_clash_38 : decode cX7_clash 38 = .ok (.aload_n 0, 1) := by decide +kernel
theorem dX7_clash_39 : decode cX7_clash 39 = .ok (.iload_n 2, 1) := by decide +kernel
theorem dX7_clash_40 : decode cX7_clash 40 = .ok (.invokevirtual 102, 3) := by decide +kernel
theorem dX7_clash_43 : decode cX7_clash 43 = .ok (.aload_n 0, 1) := by decide +kernel
theorem dX7_clash_44 : decode cX7_clash 44 = .ok (.iload_n 2, 1) := by decide +kernel
theorem dX7_clash_45 : decode cX7_clash 45 = .ok (.invokevirtual 105, 3) := by decide +kernel
theorem dX7_clash_48 : decode cX7_clash 48 = .ok (.ior, 1) := by decide +kernel
theorem dX7_clash_49 : decode cX7_clash 49 = .ok (.iand, 1) := by decide +kernel
theorem dX7_clash_50 : decode cX7_clash 50 = .ok (.ifCond .ne 17, 3) := by decide +kernel
theorem dX7_clash_53 : decode cX7_clash 53 = .ok (.aload_n 0, 1) := by decide +kernel
theorem dX7_clash_54 : decode cX7_clash 54 = .ok (.iload_n 2, 1) := by decide +kernel
theorem dX7_clash_55 : decode cX7_clash 55 = .ok (.invokevirtual 102, 3) := by decide +kernel
theorem dX7_clash_58 : decode cX7_clash 58 = .ok (.aload_n 0, 1) := by decide +kernel
theorem dX7_clash_59 : decode cX7_clash 59 = .ok (.iload_n 1, 1) := by decide +kernel
theorem dX7_clash_60 : decode cX7_clash 60 = .ok (.invokevirtual 105, 3) := by decide +kernel
theorem dX7_clash_63 : decode cX7_clash 63 = .ok (.iand, 1) := by decide +kernel
theorem dX7_clash_64 : decode cX7_clash 64 = .ok (.ifCond .eq 7, 3) := by decide +kernel
theorem dX7_clash_67 : decode cX7_clash 67 = .ok (.iconst 1, 1) := by decide +kernel
theorem dX7_clash_68 : decode cX7_clash 68 = .ok (.goto 4, 3) := by decide +kernel
theorem dX7_clash_71 : decode cX7_clash 71 = .ok (.iconst 0, 1) := by decide +kernel
theorem dX7_clash_72 : decode cX7_clash 72 = .ok (.istore_n 3, 1) := by decide +kernel
theorem dX7_clash_73 : decode cX7_clash 73 = .ok (.iload_n 3, 1) := by decide +kernel
theorem dX7_clash_74 : decode cX7_clash 74 = .ok (.ifCond .eq 7, 3) := by decide +kernel
theorem dX7_clash_77 : decode cX7_clash 77 = .ok (.iconst 1, 1) := by decide +kernel
theorem dX7_clash_78 : decode cX7_clash 78 = .ok (.goto 4, 3) := by decide +kernel
theorem dX7_clash_81 : decode cX7_clash 81 = .ok (.iconst 0, 1) := by decide +kernel
theorem dX7_clash_82 : decode cX7_clash 82 = .ok (.ireturn, 1) := by decide +kernel
theorem dX7_fine_0 : decode cX7_fine 0 = .ok (.iload_n 1, 1) := by decide +kernel
theorem dX7_fine_1 : decode cX7_fine 1 = .ok (.invokestatic 55, 3) := by decide +kernel
theorem dX7_fine_4 : decode cX7_fine 4 = .ok (.ifCond .ne 10, 3) := by decide +kernel
theorem dX7_fine_7 : decode cX7_fine 7 = .ok (.aload_n 0, 1) := by decide +kernel
theorem dX7_fine_8 : decode cX7_fine 8 = .ok (.bipush (-2), 2) := by decide +kernel
theorem dX7_fine_10 : decode cX7_fine 10 = .ok (.invokevirtual 51, 3) := by decide +kernel
theorem dX7_fine_13 : decode cX7_fine 13 = .ok (.ireturn, 1) := by decide +kernel
theorem dX7_fine_14 : decode cX7_fine 14 = .ok (.aload_n 0, 1) := by decide +kernel
theorem dX7_fine_15 : decode cX7_fine 15 = .ok (.iconst (-1), 1) := by decide +kernel
theorem dX7_fine_16 : decode cX7_fine 16 = .ok (.invokevirtual 108, 3) := by decide +kernel
theorem dX7_fine_19 : decode cX7_fine 19 = .ok (.aload_n 0, 1) := by decide +kernel
theorem dX7_fine_20 : decode cX7_fine 20 = .ok (.getfield 25, 3) := by decide +kernel
theorem dX7_fine_23 : decode cX7_fine 23 = .ok (.iload_n 1, 1) := by decide +kernel
theorem dX7_fine_24 : decode cX7_fine 24 = .ok (.iaload, 1) := by decide +kernel
theorem dX7_fine_25 : decode cX7_fine 25 = .ok (.ireturn, 1) := by decide +kernel
theorem dX7_coarse_0 : decode cX7_coarse 0 = .ok (.iload_n 1, 1) := by decide +kernel
theorem dX7_coarse_1 : decode cX7_coarse 1 = .ok (.invokestatic 55, 3) := by decide +kernel
theorem dX7_coarse_4 : decode cX7_coarse 4 = .ok (.ifCond .ne 10, 3) := by decide +kernel
theorem dX7_coarse_7 : decode cX7_coarse 7 = .ok (.aload_n 0, 1) := by decide +kernel
theorem dX7_coarse_8 : decode cX7_coarse 8 = .ok (.bipush (-2), 2) := by decide +kernel
theorem dX7_coarse_10 : decode cX7_coarse 10 = .ok (.invokevirtual 51, 3) := by decide +kernel
theorem dX7_coarse_13 : decode cX7_coarse 13 = .ok (.ireturn, 1) := by decide +kernel
theorem dX7_coarse_14 : decode cX7_coarse 14 = .ok (.aload_n 0, 1) := by decide +kernel
theorem dX7_coarse_15 : decode cX7_coarse 15 = .ok (.iconst (-1), 1) := by decide +kernel
theorem dX7_coarse_16 : decode cX7_coarse 16 = .ok (.invokevirtual 115, 3) := by decide +kernel
theorem dX7_coarse_19 : decode cX7_coarse 19 = .ok (.aload_n 0, 1) := by decide +kernel
theorem dX7_coarse_20 : decode cX7_coarse 20 = .ok (.iload_n 1, 1) := by decide +kernel
theorem dX7_coarse_21 : decode cX7_coarse 21 = .ok (.invokevirtual 118, 3) := by decide +kernel
theorem dX7_coarse_24 : decode cX7_coarse 24 = .ok (.ireturn, 1) := by decide +kernel
theorem dX7_group_0 : decode cX7_group 0 = .ok (.iload_n 1, 1) := by decide +kernel
theorem dX7_group_1 : decode cX7_group 1 = .ok (.invokestatic 55, 3) := by decide +kernel
theorem dX7_group_4 : decode cX7_group 4 = .ok (.ifCond .eq 12, 3) := by decide +kernel
theorem dX7_group_7 : decode cX7_group 7 = .ok (.iload_n 2, 1) := by decide +kernel
theorem dX7_group_8 : decode cX7_group 8 = .ok (.iconst 0, 1) := by decide +kernel
theorem dX7_group_9 : decode cX7_group 9 = .ok (.iconst 2, 1) := by decide +kernel
theorem dX7_group_10 : decode cX7_group 10 = .ok (.invokestatic 43, 3) := by decide +kernel
theorem dX7_group_13 : decode cX7_group 13 = .ok (.ifCond .ne 10, 3) := by decide +kernel
theorem dX7_group_16 : decode cX7_group 16 = .ok (.aload_n 0, 1) := by decide +kernel
theorem dX7_group_17 : decode cX7_group 17 = .ok (.bipush (-2), 2) := by decide +kernel
theorem dX7_group_19 : decode cX7_group 19 = .ok (.invokevirtual 51, 3) := by decide +kernel
theorem dX7_group_22 : decode cX7_group 22 = .ok (.ireturn, 1) := by decide +kernel
theorem dX7_group_23 : decode cX7_group 23 = .ok (.aload_n 0, 1) := by decide +kernel
theorem dX7_group_24 : decode cX7_group 24 = .ok (.iconst (-1), 1) := by decide +kernel
theorem dX7_group_25 : decode cX7_group 25 = .ok (.invokevirtual 115, 3) := by decide +kernel
theorem dX7_group_28 : decode cX7_group 28 = .ok (.iload_n 2, 1) := by decide +kernel
theorem dX7_group_29 : decode cX7_group 29 = .ok (.ifCond .ne 16, 3) := by decide +kernel
theorem dX7_group_32 : decode cX7_group 32 = .ok (.aload_n 0, 1) := by decide +kernel
theorem dX7_group_33 : decode cX7_group 33 = .ok (.aload_n 0, 1) := by decide +kernel
theorem dX7_group_34 : decode cX7_group 34 = .ok (.getfield 28, 3) := by decide +kernel
theorem dX7_group_37 : decode cX7_group 37 = .ok (.iload_n 1, 1) := by decide +kernel
theorem dX7_group_38 : decode cX7_group 38 = .ok (.iaload, 1) := by decide +kernel
theorem dX7_group_39 : decode cX7_group 39 = .ok (.invokevirtual 99, 3) := by decide +kernel
theorem dX7_group_42 : decode cX7_group 42 = .ok (.goto 28, 3) := by decide +kernel
theorem dX7_group_45 : decode cX7_group 45 = .ok (.iload_n 2, 1) := by decide +kernel
theorem dX7_group_46 : decode cX7_group 46 = .ok (.iconst 1, 1) := by decide +kernel
theorem dX7_group_47 : decode cX7_group 47 = .ok (.if_icmp .ne 12, 3) := by decide +kernel
theorem dX7_group_50 : decode cX7_group 50 = .ok (.aload_n 0, 1) := by decide +kernel
theorem dX7_group_51 : decode cX7_group 51 = .ok (.getfield 28, 3) := by decide +kernel
theorem dX7_group_54 : decode cX7_group 54 = .ok (.iload_n 1, 1) := by decide +kernel
theorem dX7_group_55 : decode cX7_group 55 = .ok (.iaload, 1) := by decide +kernel
theorem dX7_group_56 : decode cX7_group 56 = .ok (.goto 14, 3) := by decide +kernel
theorem dX7_group_59 : decode cX7_group 59 = .ok (.aload_n 0, 1) := by decide +kernel
theorem dX7_group_60 : decode cX7_group 60 = .ok (.getfield 31, 3) := by decide +kernel
theorem dX7_group_63 : decode cX7_group 63 = .ok (.aload_n 0, 1) := by decide +kernel
theorem dX7_group_64 : decode cX7_group 64 = .ok (.getfield 28, 3) := by decide +kernel
theorem dX7_group_67 : decode cX7_group 67 = .ok (.iload_n 1, 1) := by decide +kernel
theorem dX7_group_68 : decode cX7_group 68 = .ok (.iaload, 1) := by decide +kernel
theorem dX7_group_69 : decode cX7_group 69 = .ok (.iaload, 1) := by decide +kernel
theorem dX7_group_70 : decode cX7_group 70 = .ok (.ireturn, 1) := by decide +kernel
theorem dX7_countOf_0 : decode cX7_countOf 0 = .ok (.aload_n 0, 1) := by decide +kernel
theorem dX7_countOf_1 : decode cX7_countOf 1 = .ok (.iconst (-1), 1) := by decide +kernel
theorem dX7_countOf_2 : decode cX7_countOf 2 = .ok (.invokevirtual 108, 3) := by decide +kernel
theorem dX7_countOf_5 : decode cX7_countOf 5 = .ok (.aload_n 0, 1) := by decide +kernel
theorem dX7_countOf_6 : decode cX7_countOf 6 = .ok (.iconst (-1), 1) := by decide +kernel
theorem dX7_countOf_7 : decode cX7_countOf 7 = .ok (.invokevirtual 115, 3) := by decide +kernel
theorem dX7_countOf_10 : decode cX7_countOf 10 = .ok (.iconst 0, 1) := by decide +kernel
theorem dX7_countOf_11 : decode cX7_countOf 11 = .ok (.istore_n 2, 1) := by decide +kernel
theorem dX7_countOf_12 : decode cX7_countOf 12 = .ok (.iconst 0, 1) := by decide +kernel
theorem dX7_countOf_13 : decode cX7_countOf 13 = .ok (.istore_n 3, 1) := by decide +kernel
theorem dX7_countOf_14 : decode cX7_countOf 14 = .ok (.iload_n 3, 1) := by decide +kernel
theorem dX7_countOf_15 : decode cX7_countOf 15 = .ok (.bipush 10, 2) := by decide +kernel
theorem dX7_countOf_17 : decode cX7_countOf 17 = .ok (.if_icmp .ge 151, 3) := by decide +kernel
theorem dX7_countOf_20 : decode cX7_countOf 20 = .ok (.aload_n 0, 1) := by decide +kernel
theorem dX7_countOf_21 : decode cX7_countOf 21 = .ok (.getfield 28, 3) := by decide +kernel
theorem dX7_countOf_24 : decode cX7_countOf 24 = .ok (.iload_n 3, 1) := by decide +kernel
theorem dX7_countOf_25 : decode cX7_countOf 25 = .ok (.iaload, 1) := by decide +kernel
theorem dX7_countOf_26 : decode cX7_countOf 26 = .ok (.iload_n 3, 1) := by decide +kernel
theorem dX7_countOf_27 : decode cX7_countOf 27 = .ok (.if_icmp .ne 7, 3) := by decide +kernel
theorem dX7_countOf_30 : decode cX7_countOf 30 = .ok (.iconst 1, 1) := by decide +kernel
theorem dX7_countOf_31 : decode cX7_countOf 31 = .ok (.goto 4, 3) := by decide +kernel
theorem dX7_countOf_34 : decode cX7_countOf 34 = .ok (.iconst 0, 1) := by decide +kernel
theorem dX7_countOf_35 : decode cX7_countOf 35 = .ok (.istore 4, 2) := by decide +kernel
theorem dX7_countOf_37 : decode cX7_countOf 37 = .ok (.iload_n 1, 1) := by decide +kernel
theorem dX7_countOf_38 : decode cX7_countOf 38 = .ok (.tableswitch 113 0 3 #[30, 46, 72, 98], 30) := by decide +kernel
theorem dX7_countOf_68 : decode cX7_countOf 68 = .ok (.iload_n 2, 1) := by decide +kernel
theorem dX7_countOf_69 : decode cX7_countOf 69 = .ok (.iload 4, 2) := by decide +kernel
theorem dX7_countOf_71 : decode cX7_countOf 71 = .ok (.ifCond .eq 7, 3) := by decide +kernel
theorem dX7_countOf_74 : decode cX7_countOf 74 = .ok (.iconst 1, 1) := by decide +kernel
theorem dX7_countOf_75 : decode cX7_countOf 75 = .ok (.goto 4, 3) := by decide +kernel
theorem dX7_countOf_78 : decode cX7_countOf 78 = .ok (.iconst 0, 1) := by decide +kernel
theorem dX7_countOf_79 : decode cX7_countOf 79 = .ok (.iadd, 1) := by decide +kernel
theorem dX7_countOf_80 : decode cX7_countOf 80 = .ok (.istore_n 2, 1) := by decide +kernel
theorem dX7_countOf_81 : decode cX7_countOf 81 = .ok (.goto 81, 3) := by decide +kernel
theorem dX7_countOf_84 : decode cX7_countOf 84 = .ok (.iload_n 2, 1) := by decide +kernel
theorem dX7_countOf_85 : decode cX7_countOf 85 = .ok (.iload 4, 2) := by decide +kernel
theorem dX7_countOf_87 : decode cX7_countOf 87 = .ok (.ifCond .eq 17, 3) := by decide +kernel
theorem dX7_countOf_90 : decode cX7_countOf 90 = .ok (.aload_n 0, 1) := by decide +kernel
theorem dX7_countOf_91 : decode cX7_countOf 91 = .ok (.getfield 31, 3) := by decide +kernel
theorem dX7_countOf_94 : decode cX7_countOf 94 = .ok (.iload_n 3, 1) := by decide +kernel
theorem dX7_countOf_95 : decode cX7_countOf 95 = .ok (.iaload, 1) := by decide +kernel
theorem dX7_countOf_96 : decode cX7_countOf 96 = .ok (.iconst (-1), 1) := by decide +kernel
theorem dX7_countOf_97 : decode cX7_countOf 97 = .ok (.if_icmp .eq 7, 3) := by decide +kernel
theorem dX7_countOf_100 : decode cX7_countOf 100 = .ok (.iconst 1, 1) := by decide +kernel
theorem dX7_countOf_101 : decode cX7_countOf 101 = .ok (.goto 4, 3) := by decide +kernel
theorem dX7_countOf_104 : decode cX7_countOf 104 = .ok (.iconst 0, 1) := by decide +kernel
theorem dX7_countOf_105 : decode cX7_countOf 105 = .ok (.iadd, 1) := by decide +kernel
theorem dX7_countOf_106 : decode cX7_countOf 106 = .ok (.istore_n 2, 1) := by decide +kernel
theorem dX7_countOf_107 : decode cX7_countOf 107 = .ok (.goto 55, 3) := by decide +kernel
theorem dX7_countOf_110 : decode cX7_countOf 110 = .ok (.iload_n 2, 1) := by decide +kernel
theorem dX7_countOf_111 : decode cX7_countOf 111 = .ok (.iload 4, 2) := by decide +kernel
theorem dX7_countOf_113 : decode cX7_countOf 113 = .ok (.ifCond .eq 17, 3) := by decide +kernel
theorem dX7_countOf_116 : decode cX7_countOf 116 = .ok (.aload_n 0, 1) := by decide +kernel
theorem dX7_countOf_117 : decode cX7_countOf 117 = .ok (.getfield 31, 3) := by decide +kernel
theorem dX7_countOf_120 : decode cX7_countOf 120 = .ok (.iload_n 3, 1) := by decide +kernel
theorem dX7_countOf_121 : decode cX7_countOf 121 = .ok (.iaload, 1) := by decide +kernel
theorem dX7_countOf_122 : decode cX7_countOf 122 = .ok (.iload_n 3, 1) := by decide +kernel
theorem dX7_countOf_123 : decode cX7_countOf 123 = .ok (.if_icmp .ne 7, 3) := by decide +kernel
theorem dX7_countOf_126 : decode cX7_countOf 126 = .ok (.iconst 1, 1) := by decide +kernel
theorem dX7_countOf_127 : decode cX7_countOf 127 = .ok (.goto 4, 3) := by decide +kernel
theorem dX7_countOf_130 : decode cX7_countOf 130 = .ok (.iconst 0, 1) := by decide +kernel
theorem dX7_countOf_131 : decode cX7_countOf 131 = .ok (.iadd, 1) := by decide +kernel
theorem dX7_countOf_132 : decode cX7_countOf 132 = .ok (.istore_n 2, 1) := by decide +kernel
theorem dX7_countOf_133 : decode cX7_countOf 133 = .ok (.goto 29, 3) := by decide +kernel
theorem dX7_countOf_136 : decode cX7_countOf 136 = .ok (.iload_n 2, 1) := by decide +kernel
theorem dX7_countOf_137 : decode cX7_countOf 137 = .ok (.aload_n 0, 1) := by decide +kernel
theorem dX7_countOf_138 : decode cX7_countOf 138 = .ok (.getfield 25, 3) := by decide +kernel
theorem dX7_countOf_141 : decode cX7_countOf 141 = .ok (.iload_n 3, 1) := by decide +kernel
theorem dX7_countOf_142 : decode cX7_countOf 142 = .ok (.iaload, 1) := by decide +kernel
theorem dX7_countOf_143 : decode cX7_countOf 143 = .ok (.invokestatic 121, 3) := by decide +kernel
theorem dX7_countOf_146 : decode cX7_countOf 146 = .ok (.iadd, 1) := by decide +kernel
theorem dX7_countOf_147 : decode cX7_countOf 147 = .ok (.istore_n 2, 1) := by decide +kernel
theorem dX7_countOf_148 : decode cX7_countOf 148 = .ok (.goto 14, 3) := by decide +kernel
theorem dX7_countOf_151 : decode cX7_countOf 151 = .ok (.iload_n 2, 1) := by decide +kernel
theorem dX7_countOf_152 : decode cX7_countOf 152 = .ok (.aload_n 0, 1) := by decide +kernel
theorem dX7_countOf_153 : decode cX7_countOf 153 = .ok (.iload_n 3, 1) := by decide +kernel
theorem dX7_countOf_154 : decode cX7_countOf 154 = .ok (.invokevirtual 118, 3) := by decide +kernel
theorem dX7_countOf_157 : decode cX7_countOf 157 = .ok (.invokestatic 121, 3) := by decide +kernel
theorem dX7_countOf_160 : decode cX7_countOf 160 = .ok (.iadd, 1) := by decide +kernel
theorem dX7_countOf_161 : decode cX7_countOf 161 = .ok (.istore_n 2, 1) := by decide +kernel
theorem dX7_countOf_162 : decode cX7_countOf 162 = .ok (.iinc 3 1, 3) := by decide +kernel
theorem dX7_countOf_165 : decode cX7_countOf 165 = .ok (.goto (-151), 3) := by decide +kernel
theorem dX7_countOf_168 : decode cX7_countOf 168 = .ok (.iload_n 2, 1) := by decide +kernel
theorem dX7_countOf_169 : decode cX7_countOf 169 = .ok (.ireturn, 1) := by decide +kernel
theorem dX7_count_0 : decode cX7_count 0 = .ok (.iload_n 1, 1) := by decide +kernel
theorem dX7_count_1 : decode cX7_count 1 = .ok (.iconst 0, 1) := by decide +kernel
theorem dX7_count_2 : decode cX7_count 2 = .ok (.iconst 4, 1) := by decide +kernel
theorem dX7_count_3 : decode cX7_count 3 = .ok (.invokestatic 43, 3) := by decide +kernel
theorem dX7_count_6 : decode cX7_count 6 = .ok (.ifCond .eq 11, 3) := by decide +kernel
theorem dX7_count_9 : decode cX7_count 9 = .ok (.aload_n 0, 1) := by decide +kernel
theorem dX7_count_10 : decode cX7_count 10 = .ok (.iload_n 1, 1) := by decide +kernel
theorem dX7_count_11 : decode cX7_count 11 = .ok (.invokevirtual 124, 3) := by decide +kernel
theorem dX7_count_14 : decode cX7_count 14 = .ok (.goto 9, 3) := by decide +kernel
theorem dX7_count_17 : decode cX7_count 17 = .ok (.aload_n 0, 1) := by decide +kernel
theorem dX7_count_18 : decode cX7_count 18 = .ok (.bipush (-2), 2) := by decide +kernel
theorem dX7_count_20 : decode cX7_count 20 = .ok (.invokevirtual 51, 3) := by decide +kernel
theorem dX7_count_23 : decode cX7_count 23 = .ok (.ireturn, 1) := by decide +kernel
theorem dX7_alias_0 : decode cX7_alias 0 = .ok (.iload_n 1, 1) := by decide +kernel
theorem dX7_alias_1 : decode cX7_alias 1 = .ok (.invokestatic 55, 3) := by decide +kernel
theorem dX7_alias_4 : decode cX7_alias 4 = .ok (.ifCond .eq 19, 3) := by decide +kernel
theorem dX7_alias_7 : decode cX7_alias 7 = .ok (.iload_n 2, 1) := by decide +kernel
theorem dX7_alias_8 : decode cX7_alias 8 = .ok (.invokestatic 55, 3) := by decide +kernel
theorem dX7_alias_11 : decode cX7_alias 11 = .ok (.ifCond .eq 12, 3) := by decide +kernel
theorem dX7_alias_14 : decode cX7_alias 14 = .ok (.iload_n 3, 1) := by decide +kernel
theorem dX7_alias_15 : decode cX7_alias 15 = .ok (.iconst 0, 1) := by decide +kernel
theorem dX7_alias_16 : decode cX7_alias 16 = .ok (.iconst 1, 1) := by decide +kernel
theorem dX7_alias_17 : decode cX7_alias 17 = .ok (.invokestatic 43, 3) := by decide +kernel
theorem dX7_alias_20 : decode cX7_alias 20 = .ok (.ifCond .ne 10, 3) := by decide +kernel
theorem dX7_alias_23 : decode cX7_alias 23 = .ok (.aload_n 0, 1) := by decide +kernel
theorem dX7_alias_24 : decode cX7_alias 24 = .ok (.bipush (-2), 2) := by decide +kernel
theorem dX7_alias_26 : decode cX7_alias 26 = .ok (.invokevirtual 51, 3) := by decide +kernel
theorem dX7_alias_29 : decode cX7_alias 29 = .ok (.ireturn, 1) := by decide +kernel
theorem dX7_alias_30 : decode cX7_alias 30 = .ok (.aload_n 0, 1) := by decide +kernel
theorem dX7_alias_31 : decode cX7_alias 31 = .ok (.iconst (-1), 1) := by decide +kernel
theorem dX7_alias_32 : decode cX7_alias 32 = .ok (.invokevirtual 108, 3) := by decide +kernel
theorem dX7_alias_35 : decode cX7_alias 35 = .ok (.aload_n 0, 1) := by decide +kernel
theorem dX7_alias_36 : decode cX7_alias 36 = .ok (.iconst (-1), 1) := by decide +kernel
theorem dX7_alias_37 : decode cX7_alias 37 = .ok (.invokevirtual 115, 3) := by decide +kernel
theorem dX7_alias_40 : decode cX7_alias 40 = .ok (.iload_n 3, 1) := by decide +kernel
theorem dX7_alias_41 : decode cX7_alias 41 = .ok (.ifCond .ne 19, 3) := by decide +kernel
theorem dX7_alias_44 : decode cX7_alias 44 = .ok (.aload_n 0, 1) := by decide +kernel
theorem dX7_alias_45 : decode cX7_alias 45 = .ok (.getfield 25, 3) := by decide +kernel
theorem dX7_alias_48 : decode cX7_alias 48 = .ok (.iload_n 1, 1) := by decide +kernel
theorem dX7_alias_49 : decode cX7_alias 49 = .ok (.iaload, 1) := by decide +kernel
theorem dX7_alias_50 : decode cX7_alias 50 = .ok (.aload_n 0, 1) := by decide +kernel
theorem dX7_alias_51 : decode cX7_alias 51 = .ok (.getfield 25, 3) := by decide +kernel
theorem dX7_alias_54 : decode cX7_alias 54 = .ok (.iload_n 2, 1) := by decide +kernel
theorem dX7_alias_55 : decode cX7_alias 55 = .ok (.iaload, 1) := by decide +kernel
theorem dX7_alias_56 : decode cX7_alias 56 = .ok (.iand, 1) := by decide +kernel
theorem dX7_alias_57 : decode cX7_alias 57 = .ok (.goto 14, 3) := by decide +kernel
theorem dX7_alias_60 : decode cX7_alias 60 = .ok (.aload_n 0, 1) := by decide +kernel
theorem dX7_alias_61 : decode cX7_alias 61 = .ok (.iload_n 1, 1) := by decide +kernel
theorem dX7_alias_62 : decode cX7_alias 62 = .ok (.invokevirtual 118, 3) := by decide +kernel
theorem dX7_alias_65 : decode cX7_alias 65 = .ok (.aload_n 0, 1) := by decide +kernel
theorem dX7_alias_66 : decode cX7_alias 66 = .ok (.iload_n 2, 1) := by decide +kernel
theorem dX7_alias_67 : decode cX7_alias 67 = .ok (.invokevirtual 118, 3) := by decide +kernel
theorem dX7_alias_70 : decode cX7_alias 70 = .ok (.iand, 1) := by decide +kernel
theorem dX7_alias_71 : decode cX7_alias 71 = .ok (.istore 4, 2) := by decide +kernel
theorem dX7_alias_73 : decode cX7_alias 73 = .ok (.iload 4, 2) := by decide +kernel
theorem dX7_alias_75 : decode cX7_alias 75 = .ok (.ifCond .eq 7, 3) := by decide +kernel
theorem dX7_alias_78 : decode cX7_alias 78 = .ok (.iconst 1, 1) := by decide +kernel
theorem dX7_alias_79 : decode cX7_alias 79 = .ok (.goto 4, 3) := by decide +kernel
theorem dX7_alias_82 : decode cX7_alias 82 = .ok (.iconst 0, 1) := by decide +kernel
theorem dX7_alias_83 : decode cX7_alias 83 = .ok (.ireturn, 1) := by decide +kernel
theorem dX7_without_0 : decode cX7_without 0 = .ok (.aload_n 0, 1) := by decide +kernel
theorem dX7_without_1 : decode cX7_without 1 = .ok (.iload_n 1, 1) := by decide +kernel
theorem dX7_without_2 : decode cX7_without 2 = .ok (.invokevirtual 62, 3) := by decide +kernel
theorem dX7_without_5 : decode cX7_without 5 = .ok (.ifCond .eq 19, 3) := by decide +kernel
theorem dX7_without_8 : decode cX7_without 8 = .ok (.iload_n 2, 1) := by decide +kernel
theorem dX7_without_9 : decode cX7_without 9 = .ok (.invokestatic 55, 3) := by decide +kernel
theorem dX7_without_12 : decode cX7_without 12 = .ok (.ifCond .eq 12, 3) := by decide +kernel
theorem dX7_without_15 : decode cX7_without 15 = .ok (.iload_n 3, 1) := by decide +kernel
theorem dX7_without_16 : decode cX7_without 16 = .ok (.iconst 0, 1) := by decide +kernel
theorem dX7_without_17 : decode cX7_without 17 = .ok (.iconst 1, 1) := by decide +kernel
theorem dX7_without_18 : decode cX7_without 18 = .ok (.invokestatic 43, 3) := by decide +kernel
theorem dX7_without_21 : decode cX7_without 21 = .ok (.ifCond .ne 10, 3) := by decide +kernel
theorem dX7_without_24 : decode cX7_without 24 = .ok (.aload_n 0, 1) := by decide +kernel
theorem dX7_without_25 : decode cX7_without 25 = .ok (.bipush (-2), 2) := by decide +kernel
theorem dX7_without_27 : decode cX7_without 27 = .ok (.invokevirtual 51, 3) := by decide +kernel
theorem dX7_without_30 : decode cX7_without 30 = .ok (.ireturn, 1) := by decide +kernel
theorem dX7_without_31 : decode cX7_without 31 = .ok (.aload_n 0, 1) := by decide +kernel
theorem dX7_without_32 : decode cX7_without 32 = .ok (.iconst (-1), 1) := by decide +kernel
theorem dX7_without_33 : decode cX7_without 33 = .ok (.invokevirtual 108, 3) := by decide +kernel
theorem dX7_without_36 : decode cX7_without 36 = .ok (.aload_n 0, 1) := by decide +kernel
theorem dX7_without_37 : decode cX7_without 37 = .ok (.iconst (-1), 1) := by decide +kernel
theorem dX7_without_38 : decode cX7_without 38 = .ok (.invokevirtual 115, 3) := by decide +kernel
theorem dX7_without_41 : decode cX7_without 41 = .ok (.iload_n 3, 1) := by decide +kernel
theorem dX7_without_42 : decode cX7_without 42 = .ok (.ifCond .ne 15, 3) := by decide +kernel
theorem dX7_without_45 : decode cX7_without 45 = .ok (.aload_n 0, 1) := by decide +kernel
theorem dX7_without_46 : decode cX7_without 46 = .ok (.getfield 25, 3) := by decide +kernel
theorem dX7_without_49 : decode cX7_without 49 = .ok (.iload_n 2, 1) := by decide +kernel
theorem dX7_without_50 : decode cX7_without 50 = .ok (.iaload, 1) := by decide +kernel
theorem dX7_without_51 : decode cX7_without 51 = .ok (.invokestatic 121, 3) := by decide +kernel
theorem dX7_without_54 : decode cX7_without 54 = .ok (.goto 11, 3) := by decide +kernel
theorem dX7_without_57 : decode cX7_without 57 = .ok (.aload_n 0, 1) := by decide +kernel
theorem dX7_without_58 : decode cX7_without 58 = .ok (.iload_n 2, 1) := by decide +kernel
theorem dX7_without_59 : decode cX7_without 59 = .ok (.invokevirtual 118, 3) := by decide +kernel
theorem dX7_without_62 : decode cX7_without 62 = .ok (.invokestatic 121, 3) := by decide +kernel
theorem dX7_without_65 : decode cX7_without 65 = .ok (.istore 4, 2) := by decide +kernel
theorem dX7_without_67 : decode cX7_without 67 = .ok (.aload_n 0, 1) := by decide +kernel
theorem dX7_without_68 : decode cX7_without 68 = .ok (.iload_n 1, 1) := by decide +kernel
theorem dX7_without_69 : decode cX7_without 69 = .ok (.invokevirtual 108, 3) := by decide +kernel
theorem dX7_without_72 : decode cX7_without 72 = .ok (.aload_n 0, 1) := by decide +kernel
theorem dX7_without_73 : decode cX7_without 73 = .ok (.iload_n 1, 1) := by decide +kernel
theorem dX7_without_74 : decode cX7_without 74 = .ok (.invokevirtual 115, 3) := by decide +kernel
theorem dX7_without_77 : decode cX7_without 77 = .ok (.iload 4, 2) := by decide +kernel
theorem dX7_without_79 : decode cX7_without 79 = .ok (.iload_n 3, 1) := by decide +kernel
theorem dX7_without_80 : decode cX7_without 80 = .ok (.ifCond .ne 15, 3) := by decide +kernel
theorem dX7_without_83 : decode cX7_without 83 = .ok (.aload_n 0, 1) := by decide +kernel
theorem dX7_without_84 : decode cX7_without 84 = .ok (.getfield 25, 3) := by decide +kernel
theorem dX7_without_87 : decode cX7_without 87 = .ok (.iload_n 2, 1) := by decide +kernel
theorem dX7_without_88 : decode cX7_without 88 = .ok (.iaload, 1) := by decide +kernel
theorem dX7_without_89 : decode cX7_without 89 = .ok (.invokestatic 121, 3) := by decide +kernel
theorem dX7_without_92 : decode cX7_without 92 = .ok (.goto 11, 3) := by decide +kernel
theorem dX7_without_95 : decode cX7_without 95 = .ok (.aload_n 0, 1) := by decide +kernel
theorem dX7_without_96 : decode cX7_without 96 = .ok (.iload_n 2, 1) := by decide +kernel
theorem dX7_without_97 : decode cX7_without 97 = .ok (.invokevirtual 118, 3) := by decide +kernel
theorem dX7_without_100 : decode cX7_without 100 = .ok (.invokestatic 121, 3) := by decide +kernel
theorem dX7_without_103 : decode cX7_without 103 = .ok (.isub, 1) := by decide +kernel
theorem dX7_without_104 : decode cX7_without 104 = .ok (.ireturn, 1) := by decide +kernel
theorem dX7_does_0 : decode cX7_does 0 = .ok (.aload_n 0, 1) := by decide +kernel
theorem dX7_does_1 : decode cX7_does 1 = .ok (.iload_n 1, 1) := by decide +kernel
theorem dX7_does_2 : decode cX7_does 2 = .ok (.invokevirtual 69, 3) := by decide +kernel
theorem dX7_does_5 : decode cX7_does 5 = .ok (.istore_n 2, 1) := by decide +kernel
theorem dX7_does_6 : decode cX7_does 6 = .ok (.aload_n 0, 1) := by decide +kernel
theorem dX7_does_7 : decode cX7_does 7 = .ok (.iload_n 1, 1) := by decide +kernel
theorem dX7_does_8 : decode cX7_does 8 = .ok (.invokevirtual 72, 3) := by decide +kernel
theorem dX7_does_11 : decode cX7_does 11 = .ok (.istore_n 3, 1) := by decide +kernel
theorem dX7_does_12 : decode cX7_does 12 = .ok (.aload_n 0, 1) := by decide +kernel
theorem dX7_does_13 : decode cX7_does 13 = .ok (.iload_n 1, 1) := by decide +kernel
theorem dX7_does_14 : decode cX7_does 14 = .ok (.invokevirtual 75, 3) := by decide +kernel
theorem dX7_does_17 : decode cX7_does 17 = .ok (.tableswitch 115 0 2 #[27, 37, 52], 27) := by decide +kernel
theorem dX7_does_44 : decode cX7_does 44 = .ok (.aload_n 0, 1) := by decide +kernel
theorem dX7_does_45 : decode cX7_does 45 = .ok (.getfield 34, 3) := by decide +kernel
theorem dX7_does_48 : decode cX7_does 48 = .ok (.iload_n 2, 1) := by decide +kernel
theorem dX7_does_49 : decode cX7_does 49 = .ok (.iload_n 3, 1) := by decide +kernel
theorem dX7_does_50 : decode cX7_does 50 = .ok (.iastore, 1) := by decide +kernel
theorem dX7_does_51 : decode cX7_does 51 = .ok (.goto 121, 3) := by decide +kernel
theorem dX7_does_54 : decode cX7_does 54 = .ok (.aload_n 0, 1) := by decide +kernel
theorem dX7_does_55 : decode cX7_does 55 = .ok (.getfield 34, 3) := by decide +kernel
theorem dX7_does_58 : decode cX7_does 58 = .ok (.iload_n 2, 1) := by decide +kernel
theorem dX7_does_59 : decode cX7_does 59 = .ok (.aload_n 0, 1) := by decide +kernel
theorem dX7_does_60 : decode cX7_does 60 = .ok (.getfield 34, 3) := by decide +kernel
theorem dX7_does_63 : decode cX7_does 63 = .ok (.iload_n 3, 1) := by decide +kernel
theorem dX7_does_64 : decode cX7_does 64 = .ok (.iaload, 1) := by decide +kernel
theorem dX7_does_65 : decode cX7_does 65 = .ok (.iastore, 1) := by decide +kernel
theorem dX7_does_66 : decode cX7_does 66 = .ok (.goto 106, 3) := by decide +kernel
theorem dX7_does_69 : decode cX7_does 69 = .ok (.aload_n 0, 1) := by decide +kernel
theorem dX7_does_70 : decode cX7_does 70 = .ok (.dup, 1) := by decide +kernel
theorem dX7_does_71 : decode cX7_does 71 = .ok (.getfield 127, 3) := by decide +kernel
theorem dX7_does_74 : decode cX7_does 74 = .ok (.aload_n 0, 1) := by decide +kernel
theorem dX7_does_75 : decode cX7_does 75 = .ok (.getfield 34, 3) := by decide +kernel
theorem dX7_does_78 : decode cX7_does 78 = .ok (.iload_n 3, 1) := by decide +kernel
theorem dX7_does_79 : decode cX7_does 79 = .ok (.iaload, 1) := by decide +kernel
theorem dX7_does_80 : decode cX7_does 80 = .ok (.iconst (-1), 1) := by decide +kernel
theorem dX7_does_81 : decode cX7_does 81 = .ok (.if_icmp .ne 7, 3) := by decide +kernel
theorem dX7_does_84 : decode cX7_does 84 = .ok (.iconst 1, 1) := by decide +kernel
theorem dX7_does_85 : decode cX7_does 85 = .ok (.goto 4, 3) := by decide +kernel
theorem dX7_does_88 : decode cX7_does 88 = .ok (.iconst 0, 1) := by decide +kernel
theorem dX7_does_89 : decode cX7_does 89 = .ok (.iadd, 1) := by decide +kernel
theorem dX7_does_90 : decode cX7_does 90 = .ok (.putfield 127, 3) := by decide +kernel
theorem dX7_does_93 : decode cX7_does 93 = .ok (.aload_n 0, 1) := by decide +kernel
theorem dX7_does_94 : decode cX7_does 94 = .ok (.getfield 34, 3) := by decide +kernel
theorem dX7_does_97 : decode cX7_does 97 = .ok (.iload_n 2, 1) := by decide +kernel
theorem dX7_does_98 : decode cX7_does 98 = .ok (.aload_n 0, 1) := by decide +kernel
theorem dX7_does_99 : decode cX7_does 99 = .ok (.getfield 34, 3) := by decide +kernel
theorem dX7_does_102 : decode cX7_does 102 = .ok (.iload_n 3, 1) := by decide +kernel
theorem dX7_does_103 : decode cX7_does 103 = .ok (.iaload, 1) := by decide +kernel
theorem dX7_does_104 : decode cX7_does 104 = .ok (.iconst (-1), 1) := by decide +kernel
theorem dX7_does_105 : decode cX7_does 105 = .ok (.if_icmp .ne 12, 3) := by decide +kernel
theorem dX7_does_108 : decode cX7_does 108 = .ok (.aload_n 0, 1) := by decide +kernel
theorem dX7_does_109 : decode cX7_does 109 = .ok (.getfield 34, 3) := by decide +kernel
theorem dX7_does_112 : decode cX7_does 112 = .ok (.iload_n 2, 1) := by decide +kernel
theorem dX7_does_113 : decode cX7_does 113 = .ok (.iaload, 1) := by decide +kernel
theorem dX7_does_114 : decode cX7_does 114 = .ok (.goto 14, 3) := by decide +kernel
theorem dX7_does_117 : decode cX7_does 117 = .ok (.aload_n 0, 1) := by decide +kernel
theorem dX7_does_118 : decode cX7_does 118 = .ok (.getfield 34, 3) := by decide +kernel
theorem dX7_does_121 : decode cX7_does 121 = .ok (.aload_n 0, 1) := by decide +kernel
theorem dX7_does_122 : decode cX7_does 122 = .ok (.getfield 34, 3) := by decide +kernel
theorem dX7_does_125 : decode cX7_does 125 = .ok (.iload_n 3, 1) := by decide +kernel
theorem dX7_does_126 : decode cX7_does 126 = .ok (.iaload, 1) := by decide +kernel
theorem dX7_does_127 : decode cX7_does 127 = .ok (.iaload, 1) := by decide +kernel
theorem dX7_does_128 : decode cX7_does 128 = .ok (.iastore, 1) := by decide +kernel
theorem dX7_does_129 : decode cX7_does 129 = .ok (.goto 43, 3) := by decide +kernel
theorem dX7_does_132 : decode cX7_does 132 = .ok (.aload_n 0, 1) := by decide +kernel
theorem dX7_does_133 : decode cX7_does 133 = .ok (.getfield 34, 3) := by decide +kernel
theorem dX7_does_136 : decode cX7_does 136 = .ok (.iload_n 2, 1) := by decide +kernel
theorem dX7_does_137 : decode cX7_does 137 = .ok (.iaload, 1) := by decide +kernel
theorem dX7_does_138 : decode cX7_does 138 = .ok (.iconst (-1), 1) := by decide +kernel
theorem dX7_does_139 : decode cX7_does 139 = .ok (.if_icmp .ne 16, 3) := by decide +kernel
theorem dX7_does_142 : decode cX7_does 142 = .ok (.aload_n 0, 1) := by decide +kernel
theorem dX7_does_143 : decode cX7_does 143 = .ok (.dup, 1) := by decide +kernel
theorem dX7_does_144 : decode cX7_does 144 = .ok (.getfield 127, 3) := by decide +kernel
theorem dX7_does_147 : decode cX7_does 147 = .ok (.iconst 1, 1) := by decide +kernel
theorem dX7_does_148 : decode cX7_does 148 = .ok (.iadd, 1) := by decide +kernel
theorem dX7_does_149 : decode cX7_does 149 = .ok (.putfield 127, 3) := by decide +kernel
theorem dX7_does_152 : decode cX7_does 152 = .ok (.goto 20, 3) := by decide +kernel
theorem dX7_does_155 : decode cX7_does 155 = .ok (.aload_n 0, 1) := by decide +kernel
theorem dX7_does_156 : decode cX7_does 156 = .ok (.getfield 34, 3) := by decide +kernel
theorem dX7_does_159 : decode cX7_does 159 = .ok (.aload_n 0, 1) := by decide +kernel
theorem dX7_does_160 : decode cX7_does 160 = .ok (.getfield 34, 3) := by decide +kernel
theorem dX7_does_163 : decode cX7_does 163 = .ok (.iload_n 2, 1) := by decide +kernel
theorem dX7_does_164 : decode cX7_does 164 = .ok (.iaload, 1) := by decide +kernel
theorem dX7_does_165 : decode cX7_does 165 = .ok (.aload_n 0, 1) := by decide +kernel
theorem dX7_does_166 : decode cX7_does 166 = .ok (.getfield 34, 3) := by decide +kernel
theorem dX7_does_169 : decode cX7_does 169 = .ok (.iload_n 3, 1) := by decide +kernel
theorem dX7_does_170 : decode cX7_does 170 = .ok (.iaload, 1) := by decide +kernel
theorem dX7_does_171 : decode cX7_does 171 = .ok (.iastore, 1) := by decide +kernel
theorem dX7_does_172 : decode cX7_does 172 = .ok (.return_, 1) := by decide +kernel
theorem dX7_runs_0 : decode cX7_runs 0 = .ok (.aload_n 0, 1) := by decide +kernel
theorem dX7_runs_1 : decode cX7_runs 1 = .ok (.iconst 0, 1) := by decide +kernel
theorem dX7_runs_2 : decode cX7_runs 2 = .ok (.putfield 127, 3) := by decide +kernel
theorem dX7_runs_5 : decode cX7_runs 5 = .ok (.iconst 0, 1) := by decide +kernel
theorem dX7_runs_6 : decode cX7_runs 6 = .ok (.istore_n 2, 1) := by decide +kernel
theorem dX7_runs_7 : decode cX7_runs 7 = .ok (.iload_n 2, 1) := by decide +kernel
theorem dX7_runs_8 : decode cX7_runs 8 = .ok (.bipush 10, 2) := by decide +kernel
theorem dX7_runs_10 : decode cX7_runs 10 = .ok (.if_icmp .ge 23, 3) := by decide +kernel
theorem dX7_runs_13 : decode cX7_runs 13 = .ok (.aload_n 0, 1) := by decide +kernel
theorem dX7_runs_14 : decode cX7_runs 14 = .ok (.getfield 34, 3) := by decide +kernel
theorem dX7_runs_17 : decode cX7_runs 17 = .ok (.iload_n 2, 1) := by decide +kernel
theorem dX7_runs_18 : decode cX7_runs 18 = .ok (.iconst (-1), 1) := by decide +kernel
theorem dX7_runs_19 : decode cX7_runs 19 = .ok (.iastore, 1) := by decide +kernel
theorem dX7_runs_20 : decode cX7_runs 20 = .ok (.aload_n 0, 1) := by decide +kernel
theorem dX7_runs_21 : decode cX7_runs 21 = .ok (.getfield 37, 3) := by decide +kernel
theorem dX7_runs_24 : decode cX7_runs 24 = .ok (.iload_n 2, 1) := by decide +kernel
theorem dX7_runs_25 : decode cX7_runs 25 = .ok (.iconst 0, 1) := by decide +kernel
theorem dX7_runs_26 : decode cX7_runs 26 = .ok (.iastore, 1) := by decide +kernel
theorem dX7_runs_27 : decode cX7_runs 27 = .ok (.iinc 2 1, 3) := by decide +kernel
theorem dX7_runs_30 : decode cX7_runs 30 = .ok (.goto (-23), 3) := by decide +kernel
theorem dX7_runs_33 : decode cX7_runs 33 = .ok (.iconst 0, 1) := by decide +kernel
theorem dX7_runs_34 : decode cX7_runs 34 = .ok (.istore_n 2, 1) := by decide +kernel
theorem dX7_runs_35 : decode cX7_runs 35 = .ok (.iload_n 2, 1) := by decide +kernel
theorem dX7_runs_36 : decode cX7_runs 36 = .ok (.iload_n 1, 1) := by decide +kernel
theorem dX7_runs_37 : decode cX7_runs 37 = .ok (.aload_n 0, 1) := by decide +kernel
theorem dX7_runs_38 : decode cX7_runs 38 = .ok (.getfield 7, 3) := by decide +kernel
theorem dX7_runs_41 : decode cX7_runs 41 = .ok (.iconst 0, 1) := by decide +kernel
theorem dX7_runs_42 : decode cX7_runs 42 = .ok (.iaload, 1) := by decide +kernel
theorem dX7_runs_43 : decode cX7_runs 43 = .ok (.imul, 1) := by decide +kernel
theorem dX7_runs_44 : decode cX7_runs 44 = .ok (.if_icmp .ge 66, 3) := by decide +kernel
theorem dX7_runs_47 : decode cX7_runs 47 = .ok (.aload_n 0, 1) := by decide +kernel
theorem dX7_runs_48 : decode cX7_runs 48 = .ok (.iload_n 2, 1) := by decide +kernel
theorem dX7_runs_49 : decode cX7_runs 49 = .ok (.aload_n 0, 1) := by decide +kernel
theorem dX7_runs_50 : decode cX7_runs 50 = .ok (.getfield 7, 3) := by decide +kernel
theorem dX7_runs_53 : decode cX7_runs 53 = .ok (.iconst 0, 1) := by decide +kernel
theorem dX7_runs_54 : decode cX7_runs 54 = .ok (.iaload, 1) := by decide +kernel
theorem dX7_runs_55 : decode cX7_runs 55 = .ok (.irem, 1) := by decide +kernel
theorem dX7_runs_56 : decode cX7_runs 56 = .ok (.invokevirtual 130, 3) := by decide +kernel
theorem dX7_runs_59 : decode cX7_runs 59 = .ok (.iconst 0, 1) := by decide +kernel
theorem dX7_runs_60 : decode cX7_runs 60 = .ok (.istore_n 3, 1) := by decide +kernel
theorem dX7_runs_61 : decode cX7_runs 61 = .ok (.iload_n 3, 1) := by decide +kernel
theorem dX7_runs_62 : decode cX7_runs 62 = .ok (.bipush 10, 2) := by decide +kernel
theorem dX7_runs_64 : decode cX7_runs 64 = .ok (.if_icmp .ge 40, 3) := by decide +kernel
theorem dX7_runs_67 : decode cX7_runs 67 = .ok (.aload_n 0, 1) := by decide +kernel
theorem dX7_runs_68 : decode cX7_runs 68 = .ok (.getfield 37, 3) := by decide +kernel
theorem dX7_runs_71 : decode cX7_runs 71 = .ok (.iload_n 3, 1) := by decide +kernel
theorem dX7_runs_72 : decode cX7_runs 72 = .ok (.dup2, 1) := by decide +kernel
theorem dX7_runs_73 : decode cX7_runs 73 = .ok (.iaload, 1) := by decide +kernel
theorem dX7_runs_74 : decode cX7_runs 74 = .ok (.aload_n 0, 1) := by decide +kernel
theorem dX7_runs_75 : decode cX7_runs 75 = .ok (.getfield 34, 3) := by decide +kernel
theorem dX7_runs_78 : decode cX7_runs 78 = .ok (.iload_n 3, 1) := by decide +kernel
theorem dX7_runs_79 : decode cX7_runs 79 = .ok (.iaload, 1) := by decide +kernel
theorem dX7_runs_80 : decode cX7_runs 80 = .ok (.iconst (-1), 1) := by decide +kernel
theorem dX7_runs_81 : decode cX7_runs 81 = .ok (.if_icmp .ne 7, 3) := by decide +kernel
theorem dX7_runs_84 : decode cX7_runs 84 = .ok (.iconst 0, 1) := by decide +kernel
theorem dX7_runs_85 : decode cX7_runs 85 = .ok (.goto 11, 3) := by decide +kernel
theorem dX7_runs_88 : decode cX7_runs 88 = .ok (.iconst 1, 1) := by decide +kernel
theorem dX7_runs_89 : decode cX7_runs 89 = .ok (.aload_n 0, 1) := by decide +kernel
theorem dX7_runs_90 : decode cX7_runs 90 = .ok (.getfield 34, 3) := by decide +kernel
theorem dX7_runs_93 : decode cX7_runs 93 = .ok (.iload_n 3, 1) := by decide +kernel
theorem dX7_runs_94 : decode cX7_runs 94 = .ok (.iaload, 1) := by decide +kernel
theorem dX7_runs_95 : decode cX7_runs 95 = .ok (.ishl, 1) := by decide +kernel
theorem dX7_runs_96 : decode cX7_runs 96 = .ok (.ior, 1) := by decide +kernel
theorem dX7_runs_97 : decode cX7_runs 97 = .ok (.iastore, 1) := by decide +kernel
theorem dX7_runs_98 : decode cX7_runs 98 = .ok (.iinc 3 1, 3) := by decide +kernel
theorem dX7_runs_101 : decode cX7_runs 101 = .ok (.goto (-40), 3) := by decide +kernel
theorem dX7_runs_104 : decode cX7_runs 104 = .ok (.iinc 2 1, 3) := by decide +kernel
theorem dX7_runs_107 : decode cX7_runs 107 = .ok (.goto (-72), 3) := by decide +kernel
theorem dX7_runs_110 : decode cX7_runs 110 = .ok (.return_, 1) := by decide +kernel
theorem dX7_points_0 : decode cX7_points 0 = .ok (.iload_n 1, 1) := by decide +kernel
theorem dX7_points_1 : decode cX7_points 1 = .ok (.iconst 0, 1) := by decide +kernel
theorem dX7_points_2 : decode cX7_points 2 = .ok (.bipush 9, 2) := by decide +kernel
theorem dX7_points_4 : decode cX7_points 4 = .ok (.invokestatic 43, 3) := by decide +kernel
theorem dX7_points_7 : decode cX7_points 7 = .ok (.ifCond .eq 10, 3) := by decide +kernel
theorem dX7_points_10 : decode cX7_points 10 = .ok (.iload_n 2, 1) := by decide +kernel
theorem dX7_points_11 : decode cX7_points 11 = .ok (.invokestatic 55, 3) := by decide +kernel
theorem dX7_points_14 : decode cX7_points 14 = .ok (.ifCond .ne 10, 3) := by decide +kernel
theorem dX7_points_17 : decode cX7_points 17 = .ok (.aload_n 0, 1) := by decide +kernel
theorem dX7_points_18 : decode cX7_points 18 = .ok (.bipush (-2), 2) := by decide +kernel
theorem dX7_points_20 : decode cX7_points 20 = .ok (.invokevirtual 51, 3) := by decide +kernel
theorem dX7_points_23 : decode cX7_points 23 = .ok (.ireturn, 1) := by decide +kernel
theorem dX7_points_24 : decode cX7_points 24 = .ok (.aload_n 0, 1) := by decide +kernel
theorem dX7_points_25 : decode cX7_points 25 = .ok (.iload_n 1, 1) := by decide +kernel
theorem dX7_points_26 : decode cX7_points 26 = .ok (.invokevirtual 133, 3) := by decide +kernel
theorem dX7_points_29 : decode cX7_points 29 = .ok (.aload_n 0, 1) := by decide +kernel
theorem dX7_points_30 : decode cX7_points 30 = .ok (.getfield 34, 3) := by decide +kernel
theorem dX7_points_33 : decode cX7_points 33 = .ok (.iload_n 2, 1) := by decide +kernel
theorem dX7_points_34 : decode cX7_points 34 = .ok (.iaload, 1) := by decide +kernel
theorem dX7_points_35 : decode cX7_points 35 = .ok (.ireturn, 1) := by decide +kernel
theorem dX7_seen_0 : decode cX7_seen 0 = .ok (.iload_n 1, 1) := by decide +kernel
theorem dX7_seen_1 : decode cX7_seen 1 = .ok (.iconst 0, 1) := by decide +kernel
theorem dX7_seen_2 : decode cX7_seen 2 = .ok (.bipush 9, 2) := by decide +kernel
theorem dX7_seen_4 : decode cX7_seen 4 = .ok (.invokestatic 43, 3) := by decide +kernel
theorem dX7_seen_7 : decode cX7_seen 7 = .ok (.ifCond .eq 10, 3) := by decide +kernel
theorem dX7_seen_10 : decode cX7_seen 10 = .ok (.iload_n 2, 1) := by decide +kernel
theorem dX7_seen_11 : decode cX7_seen 11 = .ok (.invokestatic 55, 3) := by decide +kernel
theorem dX7_seen_14 : decode cX7_seen 14 = .ok (.ifCond .ne 10, 3) := by decide +kernel
theorem dX7_seen_17 : decode cX7_seen 17 = .ok (.aload_n 0, 1) := by decide +kernel
theorem dX7_seen_18 : decode cX7_seen 18 = .ok (.bipush (-2), 2) := by decide +kernel
theorem dX7_seen_20 : decode cX7_seen 20 = .ok (.invokevirtual 51, 3) := by decide +kernel
theorem dX7_seen_23 : decode cX7_seen 23 = .ok (.ireturn, 1) := by decide +kernel
theorem dX7_seen_24 : decode cX7_seen 24 = .ok (.aload_n 0, 1) := by decide +kernel
theorem dX7_seen_25 : decode cX7_seen 25 = .ok (.iload_n 1, 1) := by decide +kernel
theorem dX7_seen_26 : decode cX7_seen 26 = .ok (.invokevirtual 133, 3) := by decide +kernel
theorem dX7_seen_29 : decode cX7_seen 29 = .ok (.aload_n 0, 1) := by decide +kernel
theorem dX7_seen_30 : decode cX7_seen 30 = .ok (.getfield 37, 3) := by decide +kernel
theorem dX7_seen_33 : decode cX7_seen 33 = .ok (.iload_n 2, 1) := by decide +kernel
theorem dX7_seen_34 : decode cX7_seen 34 = .ok (.iaload, 1) := by decide +kernel
theorem dX7_seen_35 : decode cX7_seen 35 = .ok (.ireturn, 1) := by decide +kernel
theorem dX7_misses_0 : decode cX7_misses 0 = .ok (.iload_n 1, 1) := by decide +kernel
theorem dX7_misses_1 : decode cX7_misses 1 = .ok (.iconst 0, 1) := by decide +kernel
theorem dX7_misses_2 : decode cX7_misses 2 = .ok (.bipush 9, 2) := by decide +kernel
theorem dX7_misses_4 : decode cX7_misses 4 = .ok (.invokestatic 43, 3) := by decide +kernel
theorem dX7_misses_7 : decode cX7_misses 7 = .ok (.ifCond .ne 10, 3) := by decide +kernel
theorem dX7_misses_10 : decode cX7_misses 10 = .ok (.aload_n 0, 1) := by decide +kernel
theorem dX7_misses_11 : decode cX7_misses 11 = .ok (.bipush (-2), 2) := by decide +kernel
theorem dX7_misses_13 : decode cX7_misses 13 = .ok (.invokevirtual 51, 3) := by decide +kernel
theorem dX7_misses_16 : decode cX7_misses 16 = .ok (.ireturn, 1) := by decide +kernel
theorem dX7_misses_17 : decode cX7_misses 17 = .ok (.aload_n 0, 1) := by decide +kernel
theorem dX7_misses_18 : decode cX7_misses 18 = .ok (.iload_n 1, 1) := by decide +kernel
theorem dX7_misses_19 : decode cX7_misses 19 = .ok (.invokevirtual 133, 3) := by decide +kernel
theorem dX7_misses_22 : decode cX7_misses 22 = .ok (.aload_n 0, 1) := by decide +kernel
theorem dX7_misses_23 : decode cX7_misses 23 = .ok (.getfield 127, 3) := by decide +kernel
theorem dX7_misses_26 : decode cX7_misses 26 = .ok (.ireturn, 1) := by decide +kernel
theorem dX7_type_0 : decode cX7_type 0 = .ok (.iload_n 1, 1) := by decide +kernel
theorem dX7_type_1 : decode cX7_type 1 = .ok (.iconst 0, 1) := by decide +kernel
theorem dX7_type_2 : decode cX7_type 2 = .ok (.bipush 127, 2) := by decide +kernel
theorem dX7_type_4 : decode cX7_type 4 = .ok (.invokestatic 43, 3) := by decide +kernel
theorem dX7_type_7 : decode cX7_type 7 = .ok (.ifCond .ne 10, 3) := by decide +kernel
theorem dX7_type_10 : decode cX7_type 10 = .ok (.aload_n 0, 1) := by decide +kernel
theorem dX7_type_11 : decode cX7_type 11 = .ok (.bipush (-2), 2) := by decide +kernel
theorem dX7_type_13 : decode cX7_type 13 = .ok (.invokevirtual 51, 3) := by decide +kernel
theorem dX7_type_16 : decode cX7_type 16 = .ok (.ireturn, 1) := by decide +kernel
theorem dX7_type_17 : decode cX7_type 17 = .ok (.aload_n 0, 1) := by decide +kernel
theorem dX7_type_18 : decode cX7_type 18 = .ok (.getfield 136, 3) := by decide +kernel
