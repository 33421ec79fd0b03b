theorem dX5_behindRightSide_31 : decode cX5_behindRightSide 31 = .ok (.invokevirtual 46, 3) := by decide +kernel
theorem dX5_behindRightSide_34 : decode cX5_behindRightSide 34 = .ok (.ireturn, 1) := by decide +kernel
theorem dX5_behindRightName_0 : decode cX5_behindRightName 0 = .ok (.aload_n 0, 1) := by decide +kernel
theorem dX5_behindRightName_1 : decode cX5_behindRightName 1 = .ok (.iload_n 1, 1) := by decide +kernel
theorem dX5_behindRightName_2 : decode cX5_behindRightName 2 = .ok (.bipush 97, 2) := by decide +kernel
theorem dX5_behindRightName_4 : decode cX5_behindRightName 4 = .ok (.isub, 1) := by decide +kernel
theorem dX5_behindRightName_5 : decode cX5_behindRightName 5 = .ok (.putfield 63, 3) := by decide +kernel
theorem dX5_behindRightName_8 : decode cX5_behindRightName 8 = .ok (.aload_n 0, 1) := by decide +kernel
theorem dX5_behindRightName_9 : decode cX5_behindRightName 9 = .ok (.getfield 63, 3) := by decide +kernel
theorem dX5_behindRightName_12 : decode cX5_behindRightName 12 = .ok (.invokestatic 59, 3) := by decide +kernel
theorem dX5_behindRightName_15 : decode cX5_behindRightName 15 = .ok (.ifCond .eq 7, 3) := by decide +kernel
theorem dX5_behindRightName_18 : decode cX5_behindRightName 18 = .ok (.iconst 5, 1) := by decide +kernel
theorem dX5_behindRightName_19 : decode cX5_behindRightName 19 = .ok (.goto 5, 3) := by decide +kernel
theorem dX5_behindRightName_22 : decode cX5_behindRightName 22 = .ok (.bipush 6, 2) := by decide +kernel
theorem dX5_behindRightName_24 : decode cX5_behindRightName 24 = .ok (.ireturn, 1) := by decide +kernel
theorem dX5_behindEnd_0 : decode cX5_behindEnd 0 = .ok (.iload_n 1, 1) := by decide +kernel
theorem dX5_behindEnd_1 : decode cX5_behindEnd 1 = .ok (.bipush 59, 2) := by decide +kernel
theorem dX5_behindEnd_3 : decode cX5_behindEnd 3 = .ok (.if_icmp .eq 6, 3) := by decide +kernel
theorem dX5_behindEnd_6 : decode cX5_behindEnd 6 = .ok (.bipush 6, 2) := by decide +kernel
theorem dX5_behindEnd_8 : decode cX5_behindEnd 8 = .ok (.ireturn, 1) := by decide +kernel
theorem dX5_behindEnd_9 : decode cX5_behindEnd 9 = .ok (.aload_n 0, 1) := by decide +kernel
theorem dX5_behindEnd_10 : decode cX5_behindEnd 10 = .ok (.getfield 18, 3) := by decide +kernel
theorem dX5_behindEnd_13 : decode cX5_behindEnd 13 = .ok (.aload_n 0, 1) := by decide +kernel
theorem dX5_behindEnd_14 : decode cX5_behindEnd 14 = .ok (.getfield 40, 3) := by decide +kernel
theorem dX5_behindEnd_17 : decode cX5_behindEnd 17 = .ok (.aload_n 0, 1) := by decide +kernel
theorem dX5_behindEnd_18 : decode cX5_behindEnd 18 = .ok (.getfield 56, 3) := by decide +kernel
theorem dX5_behindEnd_21 : decode cX5_behindEnd 21 = .ok (.aload_n 0, 1) := by decide +kernel
theorem dX5_behindEnd_22 : decode cX5_behindEnd 22 = .ok (.getfield 63, 3) := by decide +kernel
theorem dX5_behindEnd_25 : decode cX5_behindEnd 25 = .ok (.invokevirtual 66, 3) := by decide +kernel
theorem dX5_behindEnd_28 : decode cX5_behindEnd 28 = .ok (.iconst 0, 1) := by decide +kernel
theorem dX5_behindEnd_29 : decode cX5_behindEnd 29 = .ok (.ireturn, 1) := by decide +kernel
theorem dX6_init_0 : decode cX6_init 0 = .ok (.aload_n 0, 1) := by decide +kernel
theorem dX6_init_1 : decode cX6_init 1 = .ok (.invokespecial 1, 3) := by decide +kernel
theorem dX6_init_4 : decode cX6_init 4 = .ok (.aload_n 0, 1) := by decide +kernel
theorem dX6_init_5 : decode cX6_init 5 = .ok (.new 7, 3) := by decide +kernel
theorem dX6_init_8 : decode cX6_init 8 = .ok (.dup, 1) := by decide +kernel
theorem dX6_init_9 : decode cX6_init 9 = .ok (.invokespecial 9, 3) := by decide +kernel
theorem dX6_init_12 : decode cX6_init 12 = .ok (.putfield 10, 3) := by decide +kernel
theorem dX6_init_15 : decode cX6_init 15 = .ok (.aload_n 0, 1) := by decide +kernel
theorem dX6_init_16 : decode cX6_init 16 = .ok (.new 16, 3) := by decide +kernel
theorem dX6_init_19 : decode cX6_init 19 = .ok (.dup, 1) := by decide +kernel
theorem dX6_init_20 : decode cX6_init 20 = .ok (.invokespecial 18, 3) := by decide +kernel
theorem dX6_init_23 : decode cX6_init 23 = .ok (.putfield 19, 3) := by decide +kernel
theorem dX6_init_26 : decode cX6_init 26 = .ok (.aload_n 0, 1) := by decide +kernel
theorem dX6_init_27 : decode cX6_init 27 = .ok (.new 23, 3) := by decide +kernel
theorem dX6_init_30 : decode cX6_init 30 = .ok (.dup, 1) := by decide +kernel
theorem dX6_init_31 : decode cX6_init 31 = .ok (.invokespecial 25, 3) := by decide +kernel
theorem dX6_init_34 : decode cX6_init 34 = .ok (.putfield 26, 3) := by decide +kernel
theorem dX6_init_37 : decode cX6_init 37 = .ok (.aload_n 0, 1) := by decide +kernel
theorem dX6_init_38 : decode cX6_init 38 = .ok (.new 30, 3) := by decide +kernel
theorem dX6_init_41 : decode cX6_init 41 = .ok (.dup, 1) := by decide +kernel
theorem dX6_init_42 : decode cX6_init 42 = .ok (.invokespecial 32, 3) := by decide +kernel
theorem dX6_init_45 : decode cX6_init 45 = .ok (.putfield 33, 3) := by decide +kernel
theorem dX6_init_48 : decode cX6_init 48 = .ok (.aload_n 0, 1) := by decide +kernel
theorem dX6_init_49 : decode cX6_init 49 = .ok (.new 37, 3) := by decide +kernel
theorem dX6_init_52 : decode cX6_init 52 = .ok (.dup, 1) := by decide +kernel
theorem dX6_init_53 : decode cX6_init 53 = .ok (.invokespecial 39, 3) := by decide +kernel
theorem dX6_init_56 : decode cX6_init 56 = .ok (.putfield 40, 3) := by decide +kernel
theorem dX6_init_59 : decode cX6_init 59 = .ok (.aload_n 0, 1) := by decide +kernel
theorem dX6_init_60 : decode cX6_init 60 = .ok (.new 44, 3) := by decide +kernel
theorem dX6_init_63 : decode cX6_init 63 = .ok (.dup, 1) := by decide +kernel
theorem dX6_init_64 : decode cX6_init 64 = .ok (.invokespecial 46, 3) := by decide +kernel
theorem dX6_init_67 : decode cX6_init 67 = .ok (.putfield 47, 3) := by decide +kernel
theorem dX6_init_70 : decode cX6_init 70 = .ok (.return_, 1) := by decide +kernel
theorem dX6_line_0 : decode cX6_line 0 = .ok (.iload_n 1, 1) := by decide +kernel
theorem dX6_line_1 : decode cX6_line 1 = .ok (.iconst 4, 1) := by decide +kernel
theorem dX6_line_2 : decode cX6_line 2 = .ok (.invokestatic 51, 3) := by decide +kernel
theorem dX6_line_5 : decode cX6_line 5 = .ok (.ifCond .eq 17, 3) := by decide +kernel
theorem dX6_line_8 : decode cX6_line 8 = .ok (.iload_n 2, 1) := by decide +kernel
theorem dX6_line_9 : decode cX6_line 9 = .ok (.invokestatic 55, 3) := by decide +kernel
theorem dX6_line_12 : decode cX6_line 12 = .ok (.ifCond .eq 10, 3) := by decide +kernel
theorem dX6_line_15 : decode cX6_line 15 = .ok (.iload_n 3, 1) := by decide +kernel
theorem dX6_line_16 : decode cX6_line 16 = .ok (.invokestatic 55, 3) := by decide +kernel
theorem dX6_line_19 : decode cX6_line 19 = .ok (.ifCond .ne 8, 3) := by decide +kernel
theorem dX6_line_22 : decode cX6_line 22 = .ok (.aload_n 0, 1) := by decide +kernel
theorem dX6_line_23 : decode cX6_line 23 = .ok (.invokevirtual 59, 3) := by decide +kernel
theorem dX6_line_26 : decode cX6_line 26 = .ok (.ireturn, 1) := by decide +kernel
theorem dX6_line_27 : decode cX6_line 27 = .ok (.aload_n 0, 1) := by decide +kernel
theorem dX6_line_28 : decode cX6_line 28 = .ok (.getfield 10, 3) := by decide +kernel
theorem dX6_line_31 : decode cX6_line 31 = .ok (.invokevirtual 63, 3) := by decide +kernel
theorem dX6_line_34 : decode cX6_line 34 = .ok (.bipush 14, 2) := by decide +kernel
theorem dX6_line_36 : decode cX6_line 36 = .ok (.if_icmp .lt 8, 3) := by decide +kernel
theorem dX6_line_39 : decode cX6_line 39 = .ok (.aload_n 0, 1) := by decide +kernel
theorem dX6_line_40 : decode cX6_line 40 = .ok (.invokevirtual 66, 3) := by decide +kernel
theorem dX6_line_43 : decode cX6_line 43 = .ok (.ireturn, 1) := by decide +kernel
theorem dX6_line_44 : decode cX6_line 44 = .ok (.aload_n 0, 1) := by decide +kernel
theorem dX6_line_45 : decode cX6_line 45 = .ok (.getfield 19, 3) := by decide +kernel
theorem dX6_line_48 : decode cX6_line 48 = .ok (.aload_n 0, 1) := by decide +kernel
theorem dX6_line_49 : decode cX6_line 49 = .ok (.getfield 10, 3) := by decide +kernel
theorem dX6_line_52 : decode cX6_line 52 = .ok (.invokevirtual 69, 3) := by decide +kernel
theorem dX6_line_55 : decode cX6_line 55 = .ok (.aload_n 0, 1) := by decide +kernel
theorem dX6_line_56 : decode cX6_line 56 = .ok (.getfield 10, 3) := by decide +kernel
theorem dX6_line_59 : decode cX6_line 59 = .ok (.iload_n 1, 1) := by decide +kernel
theorem dX6_line_60 : decode cX6_line 60 = .ok (.iload_n 2, 1) := by decide +kernel
theorem dX6_line_61 : decode cX6_line 61 = .ok (.iload_n 3, 1) := by decide +kernel
theorem dX6_line_62 : decode cX6_line 62 = .ok (.invokevirtual 73, 3) := by decide +kernel
theorem dX6_line_65 : decode cX6_line 65 = .ok (.aload_n 0, 1) := by decide +kernel
theorem dX6_line_66 : decode cX6_line 66 = .ok (.getfield 10, 3) := by decide +kernel
theorem dX6_line_69 : decode cX6_line 69 = .ok (.invokevirtual 63, 3) := by decide +kernel
theorem dX6_line_72 : decode cX6_line 72 = .ok (.iconst 1, 1) := by decide +kernel
theorem dX6_line_73 : decode cX6_line 73 = .ok (.isub, 1) := by decide +kernel
theorem dX6_line_74 : decode cX6_line 74 = .ok (.ireturn, 1) := by decide +kernel
theorem dX6_drops_0 : decode cX6_drops 0 = .ok (.aload_n 0, 1) := by decide +kernel
theorem dX6_drops_1 : decode cX6_drops 1 = .ok (.iload_n 1, 1) := by decide +kernel
theorem dX6_drops_2 : decode cX6_drops 2 = .ok (.invokevirtual 77, 3) := by decide +kernel
theorem dX6_drops_5 : decode cX6_drops 5 = .ok (.ifCond .ne 8, 3) := by decide +kernel
theorem dX6_drops_8 : decode cX6_drops 8 = .ok (.aload_n 0, 1) := by decide +kernel
theorem dX6_drops_9 : decode cX6_drops 9 = .ok (.invokevirtual 59, 3) := by decide +kernel
theorem dX6_drops_12 : decode cX6_drops 12 = .ok (.ireturn, 1) := by decide +kernel
theorem dX6_drops_13 : decode cX6_drops 13 = .ok (.aload_n 0, 1) := by decide +kernel
theorem dX6_drops_14 : decode cX6_drops 14 = .ok (.getfield 19, 3) := by decide +kernel
theorem dX6_drops_17 : decode cX6_drops 17 = .ok (.aload_n 0, 1) := by decide +kernel
theorem dX6_drops_18 : decode cX6_drops 18 = .ok (.getfield 10, 3) := by decide +kernel
theorem dX6_drops_21 : decode cX6_drops 21 = .ok (.invokevirtual 69, 3) := by decide +kernel
theorem dX6_drops_24 : decode cX6_drops 24 = .ok (.aload_n 0, 1) := by decide +kernel
theorem dX6_drops_25 : decode cX6_drops 25 = .ok (.getfield 10, 3) := by decide +kernel
theorem dX6_drops_28 : decode cX6_drops 28 = .ok (.iload_n 1, 1) := by decide +kernel
theorem dX6_drops_29 : decode cX6_drops 29 = .ok (.invokevirtual 80, 3) := by decide +kernel
theorem dX6_drops_32 : decode cX6_drops 32 = .ok (.aload_n 0, 1) := by decide +kernel
theorem dX6_drops_33 : decode cX6_drops 33 = .ok (.getfield 10, 3) := by decide +kernel
theorem dX6_drops_36 : decode cX6_drops 36 = .ok (.invokevirtual 63, 3) := by decide +kernel
theorem dX6_drops_39 : decode cX6_drops 39 = .ok (.ireturn, 1) := by decide +kernel
theorem dX6_moves_0 : decode cX6_moves 0 = .ok (.aload_n 0, 1) := by decide +kernel
theorem dX6_moves_1 : decode cX6_moves 1 = .ok (.iload_n 1, 1) := by decide +kernel
theorem dX6_moves_2 : decode cX6_moves 2 = .ok (.invokevirtual 77, 3) := by decide +kernel
theorem dX6_moves_5 : decode cX6_moves 5 = .ok (.ifCond .eq 11, 3) := by decide +kernel
theorem dX6_moves_8 : decode cX6_moves 8 = .ok (.aload_n 0, 1) := by decide +kernel
theorem dX6_moves_9 : decode cX6_moves 9 = .ok (.iload_n 2, 1) := by decide +kernel
theorem dX6_moves_10 : decode cX6_moves 10 = .ok (.invokevirtual 77, 3) := by decide +kernel
theorem dX6_moves_13 : decode cX6_moves 13 = .ok (.ifCond .ne 8, 3) := by decide +kernel
theorem dX6_moves_16 : decode cX6_moves 16 = .ok (.aload_n 0, 1) := by decide +kernel
theorem dX6_moves_17 : decode cX6_moves 17 = .ok (.invokevirtual 59, 3) := by decide +kernel
theorem dX6_moves_20 : decode cX6_moves 20 = .ok (.ireturn, 1) := by decide +kernel
theorem dX6_moves_21 : decode cX6_moves 21 = .ok (.aload_n 0, 1) := by decide +kernel
theorem dX6_moves_22 : decode cX6_moves 22 = .ok (.getfield 19, 3) := by decide +kernel
theorem dX6_moves_25 : decode cX6_moves 25 = .ok (.aload_n 0, 1) := by decide +kernel
theorem dX6_moves_26 : decode cX6_moves 26 = .ok (.getfield 10, 3) := by decide +kernel
theorem dX6_moves_29 : decode cX6_moves 29 = .ok (.invokevirtual 69, 3) := by decide +kernel
theorem dX6_moves_32 : decode cX6_moves 32 = .ok (.aload_n 0, 1) := by decide +kernel
theorem dX6_moves_33 : decode cX6_moves 33 = .ok (.getfield 10, 3) := by decide +kernel
theorem dX6_moves_36 : decode cX6_moves 36 = .ok (.iload_n 1, 1) := by decide +kernel
theorem dX6_moves_37 : decode cX6_moves 37 = .ok (.iload_n 2, 1) := by decide +kernel
theorem dX6_moves_38 : decode cX6_moves 38 = .ok (.invokevirtual 84, 3) := by decide +kernel
theorem dX6_moves_41 : decode cX6_moves 41 = .ok (.iload_n 1, 1) := by decide +kernel
theorem dX6_moves_42 : decode cX6_moves 42 = .ok (.ireturn, 1) := by decide +kernel
theorem dX6_of_0 : decode cX6_of 0 = .ok (.aload_n 0, 1) := by decide +kernel
theorem dX6_of_1 : decode cX6_of 1 = .ok (.iload_n 1, 1) := by decide +kernel
theorem dX6_of_2 : decode cX6_of 2 = .ok (.invokevirtual 77, 3) := by decide +kernel
theorem dX6_of_5 : decode cX6_of 5 = .ok (.ifCond .eq 11, 3) := by decide +kernel
theorem dX6_of_8 : decode cX6_of 8 = .ok (.iload_n 2, 1) := by decide +kernel
theorem dX6_of_9 : decode cX6_of 9 = .ok (.iconst 5, 1) := by decide +kernel
theorem dX6_of_10 : decode cX6_of 10 = .ok (.invokestatic 51, 3) := by decide +kernel
theorem dX6_of_13 : decode cX6_of 13 = .ok (.ifCond .ne 8, 3) := by decide +kernel
theorem dX6_of_16 : decode cX6_of 16 = .ok (.aload_n 0, 1) := by decide +kernel
theorem dX6_of_17 : decode cX6_of 17 = .ok (.invokevirtual 59, 3) := by decide +kernel
theorem dX6_of_20 : decode cX6_of 20 = .ok (.ireturn, 1) := by decide +kernel
theorem dX6_of_21 : decode cX6_of 21 = .ok (.aload_n 0, 1) := by decide +kernel
theorem dX6_of_22 : decode cX6_of 22 = .ok (.getfield 33, 3) := by decide +kernel
theorem dX6_of_25 : decode cX6_of 25 = .ok (.aload_n 0, 1) := by decide +kernel
theorem dX6_of_26 : decode cX6_of 26 = .ok (.getfield 10, 3) := by decide +kernel
theorem dX6_of_29 : decode cX6_of 29 = .ok (.iconst (-1), 1) := by decide +kernel
theorem dX6_of_30 : decode cX6_of 30 = .ok (.invokevirtual 88, 3) := by decide +kernel
theorem dX6_of_33 : decode cX6_of 33 = .ok (.aload_n 0, 1) := by decide +kernel
theorem dX6_of_34 : decode cX6_of 34 = .ok (.iload_n 1, 1) := by decide +kernel
theorem dX6_of_35 : decode cX6_of 35 = .ok (.iload_n 2, 1) := by decide +kernel
theorem dX6_of_36 : decode cX6_of 36 = .ok (.invokevirtual 92, 3) := by decide +kernel
theorem dX6_of_39 : decode cX6_of 39 = .ok (.ireturn, 1) := by decide +kernel
theorem dX6_clash_0 : decode cX6_clash 0 = .ok (.aload_n 0, 1) := by decide +kernel
theorem dX6_clash_1 : decode cX6_clash 1 = .ok (.iload_n 1, 1) := by decide +kernel
theorem dX6_clash_2 : decode cX6_clash 2 = .ok (.invokevirtual 77, 3) := by decide +kernel
theorem dX6_clash_5 : decode cX6_clash 5 = .ok (.ifCond .eq 16, 3) := by decide +kernel
theorem dX6_clash_8 : decode cX6_clash 8 = .ok (.aload_n 0, 1) := by decide +kernel
theorem dX6_clash_9 : decode cX6_clash 9 = .ok (.iload_n 2, 1) := by decide +kernel
theorem dX6_clash_10 : decode cX6_clash 10 = .ok (.invokevirtual 77, 3) := by decide +kernel
theorem dX6_clash_13 : decode cX6_clash 13 = .ok (.ifCond .eq 8, 3) := by decide +kernel
theorem dX6_clash_16 : decode cX6_clash 16 = .ok (.iload_n 1, 1) := by decide +kernel
theorem dX6_clash_17 : decode cX6_clash 17 = .ok (.iload_n 2, 1) := by decide +kernel
theorem dX6_clash_18 : decode cX6_clash 18 = .ok (.if_icmp .ne 8, 3) := by decide +kernel
theorem dX6_clash_21 : decode cX6_clash 21 = .ok (.aload_n 0, 1) := by decide +kernel
theorem dX6_clash_22 : decode cX6_clash 22 = .ok (.invokevirtual 59, 3) := by decide +kernel
theorem dX6_clash_25 : decode cX6_clash 25 = .ok (.ireturn, 1) := by decide +kernel
theorem dX6_clash_26 : decode cX6_clash 26 = .ok (.aload_n 0, 1) := by decide +kernel
theorem dX6_clash_27 : decode cX6_clash 27 = .ok (.getfield 33, 3) := by decide +kernel
theorem dX6_clash_30 : decode cX6_clash 30 = .ok (.aload_n 0, 1) := by decide +kernel
theorem dX6_clash_31 : decode cX6_clash 31 = .ok (.getfield 10, 3) := by decide +kernel
theorem dX6_clash_34 : decode cX6_clash 34 = .ok (.iconst (-1), 1) := by decide +kernel
theorem dX6_clash_35 : decode cX6_clash 35 = .ok (.invokevirtual 88, 3) := by decide +kernel
theorem dX6_clash_38 : decode cX6_clash 38 = .ok (.aload_n 0, 1) := by decide +kernel
theorem dX6_clash_39 : decode cX6_clash 39 = .ok (.iload_n 1, 1) := by decide +kernel
theorem dX6_clash_40 : decode cX6_clash 40 = .ok (.iload_n 2, 1) := by decide +kernel
theorem dX6_clash_41 : decode cX6_clash 41 = .ok (.invokevirtual 96, 3) := by decide +kernel
theorem dX6_clash_44 : decode cX6_clash 44 = .ok (.ifCond .ne 12, 3) := by decide +kernel
theorem dX6_clash_47 : decode cX6_clash 47 = .ok (.aload_n 0, 1) := by decide +kernel
theorem dX6_clash_48 : decode cX6_clash 48 = .ok (.iload_n 2, 1) := by decide +kernel
theorem dX6_clash_49 : decode cX6_clash 49 = .ok (.iload_n 1, 1) := by decide +kernel
theorem dX6_clash_50 : decode cX6_clash 50 = .ok (.invokevirtual 96, 3) := by decide +kernel
theorem dX6_clash_53 : decode cX6_clash 53 = .ok (.ifCond .eq 7, 3) := by decide +kernel
theorem dX6_clash_56 : decode cX6_clash 56 = .ok (.iconst 1, 1) := by decide +kernel
theorem dX6_clash_57 : decode cX6_clash 57 = .ok (.goto 4, 3) := by decide +kernel
theorem dX6_clash_60 : decode cX6_clash 60 = .ok (.iconst 0, 1) := by decide +kernel
theorem dX6_clash_61 : decode cX6_clash 61 = .ok (.invokestatic 99, 3) := by decide +kernel
theorem dX6_clash_64 : decode cX6_clash 64 = .ok (.ireturn, 1) := by decide +kernel
theorem dX6_fine_0 : decode cX6_fine 0 = .ok (.iload_n 1, 1) := by decide +kernel
theorem dX6_fine_1 : decode cX6_fine 1 = .ok (.invokestatic 55, 3) := by decide +kernel
theorem dX6_fine_4 : decode cX6_fine 4 = .ok (.ifCond .ne 8, 3) := by decide +kernel
theorem dX6_fine_7 : decode cX6_fine 7 = .ok (.aload_n 0, 1) := by decide +kernel
theorem dX6_fine_8 : decode cX6_fine 8 = .ok (.invokevirtual 59, 3) := by decide +kernel
theorem dX6_fine_11 : decode cX6_fine 11 = .ok (.ireturn, 1) := by decide +kernel
theorem dX6_fine_12 : decode cX6_fine 12 = .ok (.aload_n 0, 1) := by decide +kernel
theorem dX6_fine_13 : decode cX6_fine 13 = .ok (.getfield 33, 3) := by decide +kernel
theorem dX6_fine_16 : decode cX6_fine 16 = .ok (.aload_n 0, 1) := by decide +kernel
theorem dX6_fine_17 : decode cX6_fine 17 = .ok (.getfield 10, 3) := by decide +kernel
theorem dX6_fine_20 : decode cX6_fine 20 = .ok (.iconst (-1), 1) := by decide +kernel
theorem dX6_fine_21 : decode cX6_fine 21 = .ok (.invokevirtual 88, 3) := by decide +kernel
theorem dX6_fine_24 : decode cX6_fine 24 = .ok (.aload_n 0, 1) := by decide +kernel
theorem dX6_fine_25 : decode cX6_fine 25 = .ok (.getfield 33, 3) := by decide +kernel
theorem dX6_fine_28 : decode cX6_fine 28 = .ok (.iload_n 1, 1) := by decide +kernel
theorem dX6_fine_29 : decode cX6_fine 29 = .ok (.invokevirtual 103, 3) := by decide +kernel
theorem dX6_fine_32 : decode cX6_fine 32 = .ok (.ireturn, 1) := by decide +kernel
theorem dX6_coarse_0 : decode cX6_coarse 0 = .ok (.iload_n 1, 1) := by decide +kernel
theorem dX6_coarse_1 : decode cX6_coarse 1 = .ok (.invokestatic 55, 3) := by decide +kernel
theorem dX6_coarse_4 : decode cX6_coarse 4 = .ok (.ifCond .ne 8, 3) := by decide +kernel
theorem dX6_coarse_7 : decode cX6_coarse 7 = .ok (.aload_n 0, 1) := by decide +kernel
theorem dX6_coarse_8 : decode cX6_coarse 8 = .ok (.invokevirtual 59, 3) := by decide +kernel
theorem dX6_coarse_11 : decode cX6_coarse 11 = .ok (.ireturn, 1) := by decide +kernel
theorem dX6_coarse_12 : decode cX6_coarse 12 = .ok (.aload_n 0, 1) := by decide +kernel
theorem dX6_coarse_13 : decode cX6_coarse 13 = .ok (.getfield 40, 3) := by decide +kernel
theorem dX6_coarse_16 : decode cX6_coarse 16 = .ok (.aload_n 0, 1) := by decide +kernel
theorem dX6_coarse_17 : decode cX6_coarse 17 = .ok (.getfield 10, 3) := by decide +kernel
theorem dX6_coarse_20 : decode cX6_coarse 20 = .ok (.iconst (-1), 1) := by decide +kernel
theorem dX6_coarse_21 : decode cX6_coarse 21 = .ok (.invokevirtual 107, 3) := by decide +kernel
theorem dX6_coarse_24 : decode cX6_coarse 24 = .ok (.aload_n 0, 1) := by decide +kernel
theorem dX6_coarse_25 : decode cX6_coarse 25 = .ok (.getfield 40, 3) := by decide +kernel
theorem dX6_coarse_28 : decode cX6_coarse 28 = .ok (.iload_n 1, 1) := by decide +kernel
theorem dX6_coarse_29 : decode cX6_coarse 29 = .ok (.invokevirtual 108, 3) := by decide +kernel
theorem dX6_coarse_32 : decode cX6_coarse 32 = .ok (.ireturn, 1) := by decide +kernel
theorem dX6_group_0 : decode cX6_group 0 = .ok (.iload_n 1, 1) := by decide +kernel
theorem dX6_group_1 : decode cX6_group 1 = .ok (.invokestatic 55, 3) := by decide +kernel
theorem dX6_group_4 : decode cX6_group 4 = .ok (.ifCond .eq 11, 3) := by decide +kernel
theorem dX6_group_7 : decode cX6_group 7 = .ok (.iload_n 2, 1) := by decide +kernel
theorem dX6_group_8 : decode cX6_group 8 = .ok (.iconst 3, 1) := by decide +kernel
theorem dX6_group_9 : decode cX6_group 9 = .ok (.invokestatic 51, 3) := by decide +kernel
theorem dX6_group_12 : decode cX6_group 12 = .ok (.ifCond .ne 8, 3) := by decide +kernel
theorem dX6_group_15 : decode cX6_group 15 = .ok (.aload_n 0, 1) := by decide +kernel
theorem dX6_group_16 : decode cX6_group 16 = .ok (.invokevirtual 59, 3) := by decide +kernel
theorem dX6_group_19 : decode cX6_group 19 = .ok (.ireturn, 1) := by decide +kernel
theorem dX6_group_20 : decode cX6_group 20 = .ok (.aload_n 0, 1) := by decide +kernel
theorem dX6_group_21 : decode cX6_group 21 = .ok (.getfield 40, 3) := by decide +kernel
theorem dX6_group_24 : decode cX6_group 24 = .ok (.aload_n 0, 1) := by decide +kernel
theorem dX6_group_25 : decode cX6_group 25 = .ok (.getfield 10, 3) := by decide +kernel
theorem dX6_group_28 : decode cX6_group 28 = .ok (.iconst (-1), 1) := by decide +kernel
theorem dX6_group_29 : decode cX6_group 29 = .ok (.invokevirtual 107, 3) := by decide +kernel
theorem dX6_group_32 : decode cX6_group 32 = .ok (.aload_n 0, 1) := by decide +kernel
theorem dX6_group_33 : decode cX6_group 33 = .ok (.iload_n 1, 1) := by decide +kernel
theorem dX6_group_34 : decode cX6_group 34 = .ok (.iload_n 2, 1) := by decide +kernel
theorem dX6_group_35 : decode cX6_group 35 = .ok (.invokevirtual 109, 3) := by decide +kernel
theorem dX6_group_38 : decode cX6_group 38 = .ok (.ireturn, 1) := by decide +kernel
theorem dX6_count_0 : decode cX6_count 0 = .ok (.iload_n 1, 1) := by decide +kernel
theorem dX6_count_1 : decode cX6_count 1 = .ok (.iconst 5, 1) := by decide +kernel
theorem dX6_count_2 : decode cX6_count 2 = .ok (.invokestatic 51, 3) := by decide +kernel
theorem dX6_count_5 : decode cX6_count 5 = .ok (.ifCond .ne 8, 3) := by decide +kernel
theorem dX6_count_8 : decode cX6_count 8 = .ok (.aload_n 0, 1) := by decide +kernel
theorem dX6_count_9 : decode cX6_count 9 = .ok (.invokevirtual 59, 3) := by decide +kernel
theorem dX6_count_12 : decode cX6_count 12 = .ok (.ireturn, 1) := by decide +kernel
theorem dX6_count_13 : decode cX6_count 13 = .ok (.aload_n 0, 1) := by decide +kernel
theorem dX6_count_14 : decode cX6_count 14 = .ok (.getfield 33, 3) := by decide +kernel
theorem dX6_count_17 : decode cX6_count 17 = .ok (.aload_n 0, 1) := by decide +kernel
theorem dX6_count_18 : decode cX6_count 18 = .ok (.getfield 10, 3) := by decide +kernel
theorem dX6_count_21 : decode cX6_count 21 = .ok (.iconst (-1), 1) := by decide +kernel
theorem dX6_count_22 : decode cX6_count 22 = .ok (.invokevirtual 88, 3) := by decide +kernel
theorem dX6_count_25 : decode cX6_count 25 = .ok (.aload_n 0, 1) := by decide +kernel
theorem dX6_count_26 : decode cX6_count 26 = .ok (.getfield 40, 3) := by decide +kernel
theorem dX6_count_29 : decode cX6_count 29 = .ok (.aload_n 0, 1) := by decide +kernel
theorem dX6_count_30 : decode cX6_count 30 = .ok (.getfield 10, 3) := by decide +kernel
theorem dX6_count_33 : decode cX6_count 33 = .ok (.iconst (-1), 1) := by decide +kernel
theorem dX6_count_34 : decode cX6_count 34 = .ok (.invokevirtual 107, 3) := by decide +kernel
theorem dX6_count_37 : decode cX6_count 37 = .ok (.aload_n 0, 1) := by decide +kernel
theorem dX6_count_38 : decode cX6_count 38 = .ok (.iload_n 1, 1) := by decide +kernel
theorem dX6_count_39 : decode cX6_count 39 = .ok (.invokevirtual 112, 3) := by decide +kernel
theorem dX6_count_42 : decode cX6_count 42 = .ok (.ireturn, 1) := by decide +kernel
theorem dX6_alias_0 : decode cX6_alias 0 = .ok (.iload_n 1, 1) := by decide +kernel
theorem dX6_alias_1 : decode cX6_alias 1 = .ok (.invokestatic 55, 3) := by decide +kernel
theorem dX6_alias_4 : decode cX6_alias 4 = .ok (.ifCond .eq 18, 3) := by decide +kernel
theorem dX6_alias_7 : decode cX6_alias 7 = .ok (.iload_n 2, 1) := by decide +kernel
theorem dX6_alias_8 : decode cX6_alias 8 = .ok (.invokestatic 55, 3) := by decide +kernel
theorem dX6_alias_11 : decode cX6_alias 11 = .ok (.ifCond .eq 11, 3) := by decide +kernel
theorem dX6_alias_14 : decode cX6_alias 14 = .ok (.iload_n 3, 1) := by decide +kernel
theorem dX6_alias_15 : decode cX6_alias 15 = .ok (.iconst 2, 1) := by decide +kernel
theorem dX6_alias_16 : decode cX6_alias 16 = .ok (.invokestatic 51, 3) := by decide +kernel
theorem dX6_alias_19 : decode cX6_alias 19 = .ok (.ifCond .ne 8, 3) := by decide +kernel
theorem dX6_alias_22 : decode cX6_alias 22 = .ok (.aload_n 0, 1) := by decide +kernel
theorem dX6_alias_23 : decode cX6_alias 23 = .ok (.invokevirtual 59, 3) := by decide +kernel
theorem dX6_alias_26 : decode cX6_alias 26 = .ok (.ireturn, 1) := by decide +kernel
theorem dX6_alias_27 : decode cX6_alias 27 = .ok (.aload_n 0, 1) := by decide +kernel
theorem dX6_alias_28 : decode cX6_alias 28 = .ok (.iload_n 1, 1) := by decide +kernel
theorem dX6_alias_29 : decode cX6_alias 29 = .ok (.iload_n 3, 1) := by decide +kernel
theorem dX6_alias_30 : decode cX6_alias 30 = .ok (.iconst (-1), 1) := by decide +kernel
theorem dX6_alias_31 : decode cX6_alias 31 = .ok (.invokevirtual 115, 3) := by decide +kernel
theorem dX6_alias_34 : decode cX6_alias 34 = .ok (.aload_n 0, 1) := by decide +kernel
theorem dX6_alias_35 : decode cX6_alias 35 = .ok (.iload_n 2, 1) := by decide +kernel
theorem dX6_alias_36 : decode cX6_alias 36 = .ok (.iload_n 3, 1) := by decide +kernel
theorem dX6_alias_37 : decode cX6_alias 37 = .ok (.iconst (-1), 1) := by decide +kernel
theorem dX6_alias_38 : decode cX6_alias 38 = .ok (.invokevirtual 115, 3) := by decide +kernel
theorem dX6_alias_41 : decode cX6_alias 41 = .ok (.iand, 1) := by decide +kernel
theorem dX6_alias_42 : decode cX6_alias 42 = .ok (.ifCond .eq 7, 3) := by decide +kernel
theorem dX6_alias_45 : decode cX6_alias 45 = .ok (.iconst 1, 1) := by decide +kernel
theorem dX6_alias_46 : decode cX6_alias 46 = .ok (.goto 4, 3) := by decide +kernel
theorem dX6_alias_49 : decode cX6_alias 49 = .ok (.iconst 0, 1) := by decide +kernel
theorem dX6_alias_50 : decode cX6_alias 50 = .ok (.invokestatic 99, 3) := by decide +kernel
theorem dX6_alias_53 : decode cX6_alias 53 = .ok (.ireturn, 1) := by decide +kernel
theorem dX6_without_0 : decode cX6_without 0 = .ok (.aload_n 0, 1) := by decide +kernel
theorem dX6_without_1 : decode cX6_without 1 = .ok (.iload_n 1, 1) := by decide +kernel
theorem dX6_without_2 : decode cX6_without 2 = .ok (.invokevirtual 77, 3) := by decide +kernel
theorem dX6_without_5 : decode cX6_without 5 = .ok (.ifCond .eq 18, 3) := by decide +kernel
theorem dX6_without_8 : decode cX6_without 8 = .ok (.iload_n 2, 1) := by decide +kernel
theorem dX6_without_9 : decode cX6_without 9 = .ok (.invokestatic 55, 3) := by decide +kernel
theorem dX6_without_12 : decode cX6_without 12 = .ok (.ifCond .eq 11, 3) := by decide +kernel
theorem dX6_without_15 : decode cX6_without 15 = .ok (.iload_n 3, 1) := by decide +kernel
theorem dX6_without_16 : decode cX6_without 16 = .ok (.iconst 2, 1) := by decide +kernel
theorem dX6_without_17 : decode cX6_without 17 = .ok (.invokestatic 51, 3) := by decide +kernel
theorem dX6_without_20 : decode cX6_without 20 = .ok (.ifCond .ne 8, 3) := by decide +kernel
theorem dX6_without_23 : decode cX6_without 23 = .ok (.aload_n 0, 1) := by decide +kernel
theorem dX6_without_24 : decode cX6_without 24 = .ok (.invokevirtual 59, 3) := by decide +kernel
theorem dX6_without_27 : decode cX6_without 27 = .ok (.ireturn, 1) := by decide +kernel
theorem dX6_without_28 : decode cX6_without 28 = .ok (.aload_n 0, 1) := by decide +kernel
theorem dX6_without_29 : decode cX6_without 29 = .ok (.iload_n 2, 1) := by decide +kernel
theorem dX6_without_30 : decode cX6_without 30 = .ok (.iload_n 3, 1) := by decide +kernel
theorem dX6_without_31 : decode cX6_without 31 = .ok (.iconst (-1), 1) := by decide +kernel
theorem dX6_without_32 : decode cX6_without 32 = .ok (.invokevirtual 115, 3) := by decide +kernel
theorem dX6_without_35 : decode cX6_without 35 = .ok (.invokestatic 119, 3) := by decide +kernel
theorem dX6_without_38 : decode cX6_without 38 = .ok (.istore 4, 2) := by decide +kernel
theorem dX6_without_40 : decode cX6_without 40 = .ok (.iload 4, 2) := by decide +kernel
theorem dX6_without_42 : decode cX6_without 42 = .ok (.aload_n 0, 1) := by decide +kernel
theorem dX6_without_43 : decode cX6_without 43 = .ok (.iload_n 2, 1) := by decide +kernel
theorem dX6_without_44 : decode cX6_without 44 = .ok (.iload_n 3, 1) := by decide +kernel
theorem dX6_without_45 : decode cX6_without 45 = .ok (.iload_n 1, 1) := by decide +kernel
theorem dX6_without_46 : decode cX6_without 46 = .ok (.invokevirtual 115, 3) := by decide +kernel
theorem dX6_without_49 : decode cX6_without 49 = .ok (.invokestatic 119, 3) := by decide +kernel
theorem dX6_without_52 : decode cX6_without 52 = .ok (.isub, 1) := by decide +kernel
theorem dX6_without_53 : decode cX6_without 53 = .ok (.ireturn, 1) := by decide +kernel
theorem dX6_points_0 : decode cX6_points 0 = .ok (.iload_n 1, 1) := by decide +kernel
theorem dX6_points_1 : decode cX6_points 1 = .ok (.invokestatic 124, 3) := by decide +kernel
theorem dX6_points_4 : decode cX6_points 4 = .ok (.ifCond .eq 10, 3) := by decide +kernel
theorem dX6_points_7 : decode cX6_points 7 = .ok (.iload_n 2, 1) := by decide +kernel
theorem dX6_points_8 : decode cX6_points 8 = .ok (.invokestatic 55, 3) := by decide +kernel
theorem dX6_points_11 : decode cX6_points 11 = .ok (.ifCond .ne 8, 3) := by decide +kernel
theorem dX6_points_14 : decode cX6_points 14 = .ok (.aload_n 0, 1) := by decide +kernel
theorem dX6_points_15 : decode cX6_points 15 = .ok (.invokevirtual 59, 3) := by decide +kernel
theorem dX6_points_18 : decode cX6_points 18 = .ok (.ireturn, 1) := by decide +kernel
theorem dX6_points_19 : decode cX6_points 19 = .ok (.aload_n 0, 1) := by decide +kernel
theorem dX6_points_20 : decode cX6_points 20 = .ok (.getfield 47, 3) := by decide +kernel
theorem dX6_points_23 : decode cX6_points 23 = .ok (.aload_n 0, 1) := by decide +kernel
theorem dX6_points_24 : decode cX6_points 24 = .ok (.getfield 10, 3) := by decide +kernel
theorem dX6_points_27 : decode cX6_points 27 = .ok (.iload_n 1, 1) := by decide +kernel
theorem dX6_points_28 : decode cX6_points 28 = .ok (.invokevirtual 127, 3) := by decide +kernel
theorem dX6_points_31 : decode cX6_points 31 = .ok (.aload_n 0, 1) := by decide +kernel
theorem dX6_points_32 : decode cX6_points 32 = .ok (.getfield 47, 3) := by decide +kernel
theorem dX6_points_35 : decode cX6_points 35 = .ok (.iload_n 2, 1) := by decide +kernel
theorem dX6_points_36 : decode cX6_points 36 = .ok (.invokevirtual 130, 3) := by decide +kernel
theorem dX6_points_39 : decode cX6_points 39 = .ok (.ireturn, 1) := by decide +kernel
theorem dX6_seen_0 : decode cX6_seen 0 = .ok (.iload_n 1, 1) := by decide +kernel
theorem dX6_seen_1 : decode cX6_seen 1 = .ok (.invokestatic 124, 3) := by decide +kernel
theorem dX6_seen_4 : decode cX6_seen 4 = .ok (.ifCond .eq 10, 3) := by decide +kernel
theorem dX6_seen_7 : decode cX6_seen 7 = .ok (.iload_n 2, 1) := by decide +kernel
theorem dX6_seen_8 : decode cX6_seen 8 = .ok (.invokestatic 55, 3) := by decide +kernel
theorem dX6_seen_11 : decode cX6_seen 11 = .ok (.ifCond .ne 8, 3) := by decide +kernel
theorem dX6_seen_14 : decode cX6_seen 14 = .ok (.aload_n 0, 1) := by decide +kernel
theorem dX6_seen_15 : decode cX6_seen 15 = .ok (.invokevirtual 59, 3) := by decide +kernel
theorem dX6_seen_18 : decode cX6_seen 18 = .ok (.ireturn, 1) := by decide +kernel
theorem dX6_seen_19 : decode cX6_seen 19 = .ok (.aload_n 0, 1) := by decide +kernel
theorem dX6_seen_20 : decode cX6_seen 20 = .ok (.getfield 47, 3) := by decide +kernel
theorem dX6_seen_23 : decode cX6_seen 23 = .ok (.aload_n 0, 1) := by decide +kernel
theorem dX6_seen_24 : decode cX6_seen 24 = .ok (.getfield 10, 3) := by decide +kernel
theorem dX6_seen_27 : decode cX6_seen 27 = .ok (.iload_n 1, 1) := by decide +kernel
theorem dX6_seen_28 : decode cX6_seen 28 = .ok (.invokevirtual 127, 3) := by decide +kernel
theorem dX6_seen_31 : decode cX6_seen 31 = .ok (.aload_n 0, 1) := by decide +kernel
theorem dX6_seen_32 : decode cX6_seen 32 = .ok (.getfield 47, 3) := by decide +kernel
theorem dX6_seen_35 : decode cX6_seen 35 = .ok (.iload_n 2, 1) := by decide +kernel
theorem dX6_seen_36 : decode cX6_seen 36 = .ok (.invokevirtual 133, 3) := by decide +kernel
theorem dX6_seen_39 : decode cX6_seen 39 = .ok (.ireturn, 1) := by decide +kernel
theorem dX6_misses_0 : decode cX6_misses 0 = .ok (.iload_n 1, 1) := by decide +kernel
theorem dX6_misses_1 : decode cX6_misses 1 = .ok (.invokestatic 124, 3) := by decide +kernel
theorem dX6_misses_4 : decode cX6_misses 4 = .ok (.ifCond .ne 8, 3) := by decide +kernel
theorem dX6_misses_7 : decode cX6_misses 7 = .ok (.aload_n 0, 1) := by decide +kernel
theorem dX6_misses_8 : decode cX6_misses 8 = .ok (.invokevirtual 59, 3) := by decide +kernel
theorem dX6_misses_11 : decode cX6_misses 11 = .ok (.ireturn, 1) := by decide +kernel
theorem dX6_misses_12 : decode cX6_misses 12 = .ok (.aload_n 0, 1) := by decide +kernel
theorem dX6_misses_13 : decode cX6_misses 13 = .ok (.getfield 47, 3) := by decide +kernel
theorem dX6_misses_16 : decode cX6_misses 16 = .ok (.aload_n 0, 1) := by decide +kernel
theorem dX6_misses_17 : decode cX6_misses 17 = .ok (.getfield 10, 3) := by decide +kernel
theorem dX6_misses_20 : decode cX6_misses 20 = .ok (.iload_n 1, 1) := by decide +kernel
theorem dX6_misses_21 : decode cX6_misses 21 = .ok (.invokevirtual 127, 3) := by decide +kernel
theorem dX6_misses_24 : decode cX6_misses 24 = .ok (.aload_n 0, 1) := by decide +kernel
theorem dX6_misses_25 : decode cX6_misses 25 = .ok (.getfield 47, 3) := by decide +kernel
theorem dX6_misses_28 : decode cX6_misses 28 = .ok (.invokevirtual 136, 3) := by decide +kernel
theorem dX6_misses_31 : decode cX6_misses 31 = .ok (.ireturn, 1) := by decide +kernel
theorem dX6_type_0 : decode cX6_type 0 = .ok (.iload_n 1, 1) := by decide +kernel
theorem dX6_type_1 : decode cX6_type 1 = .ok (.sipush 128, 3) := by decide +kernel
theorem dX6_type_4 : decode cX6_type 4 = .ok (.invokestatic 51, 3) := by decide +kernel
theorem dX6_type_7 : decode cX6_type 7 = .ok (.ifCond .ne 8, 3) := by decide +kernel
theorem dX6_type_10 : decode cX6_type 10 = .ok (.aload_n 0, 1) := by decide +kernel
theorem dX6_type_11 : decode cX6_type 11 = .ok (.invokevirtual 59, 3) := by decide +kernel
theorem dX6_type_14 : decode cX6_type 14 = .ok (.ireturn, 1) := by decide +kernel
theorem dX6_type_15 : decode cX6_type 15 = .ok (.aload_n 0, 1) := by decide +kernel
theorem dX6_type_16 : decode cX6_type 16 = .ok (.getfield 26, 3) := by decide +kernel
theorem dX6_type_19 : decode cX6_type 19 = .ok (.invokevirtual 139, 3) := by decide +kernel
theorem dX6_type_22 : decode cX6_type 22 = .ok (.bipush 120, 2) := by decide +kernel
theorem dX6_type_24 : decode cX6_type 24 = .ok (.if_icmp .lt 8, 3) := by decide +kernel
theorem dX6_type_27 : decode cX6_type 27 = .ok (.aload_n 0, 1) := by decide +kernel
theorem dX6_type_28 : decode cX6_type 28 = .ok (.invokevirtual 66, 3) := by decide +kernel
theorem dX6_type_31 : decode cX6_type 31 = .ok (.ireturn, 1) := by decide +kernel
theorem dX6_type_32 : decode cX6_type 32 = .ok (.aload_n 0, 1) := by decide +kernel
theorem dX6_type_33 : decode cX6_type 33 = .ok (.getfield 26, 3) := by decide +kernel
theorem dX6_type_36 : decode cX6_type 36 = .ok (.iload_n 1, 1) := by decide +kernel
theorem dX6_type_37 : decode cX6_type 37 = .ok (.invokevirtual 142, 3) := by decide +kernel
theorem dX6_type_40 : decode cX6_type 40 = .ok (.aload_n 0, 1) := by decide +kernel
theorem dX6_type_41 : decode cX6_type 41 = .ok (.getfield 26, 3) := by decide +kernel
theorem dX6_type_44 : decode cX6_type 44 = .ok (.invokevirtual 139, 3) := by decide +kernel
theorem dX6_type_47 : decode cX6_type 47 = .ok (.ireturn, 1) := by decide +kernel
theorem dX6_clear_0 : decode cX6_clear 0 = .ok (.aload_n 0, 1) := by decide +kernel
theorem dX6_clear_1 : decode cX6_clear 1 = .ok (.getfield 26, 3) := by decide +kernel
theorem dX6_clear_4 : decode cX6_clear 4 = .ok (.invokevirtual 139, 3) := by decide +kernel
theorem dX6_clear_7 : decode cX6_clear 7 = .ok (.istore_n 1, 1) := by decide +kernel
theorem dX6_clear_8 : decode cX6_clear 8 = .ok (.aload_n 0, 1) := by decide +kernel
theorem dX6_clear_9 : decode cX6_clear 9 = .ok (.getfield 26, 3) := by decide +kernel
theorem dX6_clear_12 : decode cX6_clear 12 = .ok (.invokevirtual 144, 3) := by decide +kernel
theorem dX6_clear_15 : decode cX6_clear 15 = .ok (.iload_n 1, 1) := by decide +kernel
theorem dX6_clear_16 : decode cX6_clear 16 = .ok (.ireturn, 1) := by decide +kernel
theorem dX6_reads_0 : decode cX6_reads 0 = .ok (.aload_n 0, 1) := by decide +kernel
theorem dX6_reads_1 : decode cX6_reads 1 = .ok (.getfield 26, 3) := by decide +kernel
theorem dX6_reads_4 : decode cX6_reads 4 = .ok (.invokevirtual 147, 3) := by decide +kernel
theorem dX6_reads_7 : decode cX6_reads 7 = .ok (.istore_n 1, 1) := by decide +kernel
theorem dX6_reads_8 : decode cX6_reads 8 = .ok (.iload_n 1, 1) := by decide +kernel
theorem dX6_reads_9 : decode cX6_reads 9 = .ok (.iconst (-1), 1) := by decide +kernel
theorem dX6_reads_10 : decode cX6_reads 10 = .ok (.if_icmp .eq 8, 3) := by decide +kernel
theorem dX6_reads_13 : decode cX6_reads 13 = .ok (.bipush (-10), 2) := by decide +kernel
theorem dX6_reads_15 : decode cX6_reads 15 = .ok (.iload_n 1, 1) := by decide +kernel
theorem dX6_reads_16 : decode cX6_reads 16 = .ok (.isub, 1) := by decide +kernel
theorem dX6_reads_17 : decode cX6_reads 17 = .ok (.ireturn, 1) := by decide +kernel
theorem dX6_reads_18 : decode cX6_reads 18 = .ok (.aload_n 0, 1) := by decide +kernel
theorem dX6_reads_19 : decode cX6_reads 19 = .ok (.getfield 19, 3) := by decide +kernel
theorem dX6_reads_22 : decode cX6_reads 22 = .ok (.aload_n 0, 1) := by decide +kernel
theorem dX6_reads_23 : decode cX6_reads 23 = .ok (.getfield 10, 3) := by decide +kernel
theorem dX6_reads_26 : decode cX6_reads 26 = .ok (.invokevirtual 69, 3) := by decide +kernel
theorem dX6_reads_29 : decode cX6_reads 29 = .ok (.aload_n 0, 1) := by decide +kernel
theorem dX6_reads_30 : decode cX6_reads 30 = .ok (.getfield 10, 3) := by decide +kernel
theorem dX6_reads_33 : decode cX6_reads 33 = .ok (.aload_n 0, 1) := by decide +kernel
theorem dX6_reads_34 : decode cX6_reads 34 = .ok (.getfield 26, 3) := by decide +kernel
theorem dX6_reads_37 : decode cX6_reads 37 = .ok (.invokevirtual 150, 3) := by decide +kernel
theorem dX6_reads_40 : decode cX6_reads 40 = .ok (.invokevirtual 154, 3) := by decide +kernel
theorem dX6_reads_43 : decode cX6_reads 43 = .ok (.aload_n 0, 1) := by decide +kernel
theorem dX6_reads_44 : decode cX6_reads 44 = .ok (.getfield 10, 3) := by decide +kernel
theorem dX6_reads_47 : decode cX6_reads 47 = .ok (.invokevirtual 63, 3) := by decide +kernel
theorem dX6_reads_50 : decode cX6_reads 50 = .ok (.ireturn, 1) := by decide +kernel
theorem dX6_shown_0 : decode cX6_shown 0 = .ok (.iload_n 1, 1) := by decide +kernel
theorem dX6_shown_1 : decode cX6_shown 1 = .ok (.iconst (-1), 1) := by decide +kernel
theorem dX6_shown_2 : decode cX6_shown 2 = .ok (.if_icmp .ge 8, 3) := by decide +kernel
theorem dX6_shown_5 : decode cX6_shown 5 = .ok (.aload_n 0, 1) := by decide +kernel
theorem dX6_shown_6 : decode cX6_shown 6 = .ok (.invokevirtual 59, 3) := by decide +kernel
theorem dX6_shown_9 : decode cX6_shown 9 = .ok (.ireturn, 1) := by decide +kernel
theorem dX6_shown_10 : decode cX6_shown 10 = .ok (.iload_n 1, 1) := by decide +kernel
theorem dX6_shown_11 : decode cX6_shown 11 = .ok (.iconst (-1), 1) := by decide +kernel
theorem dX6_shown_12 : decode cX6_shown 12 = .ok (.if_icmp .ne 13, 3) := by decide +kernel
theorem dX6_shown_15 : decode cX6_shown 15 = .ok (.aload_n 0, 1) := by decide +kernel
theorem dX6_shown_16 : decode cX6_shown 16 = .ok (.getfield 10, 3) := by decide +kernel
theorem dX6_shown_19 : decode cX6_shown 19 = .ok (.invokevirtual 157, 3) := by decide +kernel
theorem dX6_shown_22 : decode cX6_shown 22 = .ok (.goto 11, 3) := by decide +kernel
theorem dX6_shown_25 : decode cX6_shown 25 = .ok (.aload_n 0, 1) := by decide +kernel
theorem dX6_shown_26 : decode cX6_shown 26 = .ok (.getfield 10, 3) := by decide +kernel
theorem dX6_shown_29 : decode cX6_shown 29 = .ok (.iload_n 1, 1) := by decide +kernel
theorem dX6_shown_30 : decode cX6_shown 30 = .ok (.invokevirtual 160, 3) := by decide +kernel
theorem dX6_shown_33 : decode cX6_shown 33 = .ok (.ireturn, 1) := by decide +kernel
theorem dX6_back_0 : decode cX6_back 0 = .ok (.aload_n 0, 1) := by decide +kernel
theorem dX6_back_1 : decode cX6_back 1 = .ok (.getfield 19, 3) := by decide +kernel
theorem dX6_back_4 : decode cX6_back 4 = .ok (.invokevirtual 163, 3) := by decide +kernel
theorem dX6_back_7 : decode cX6_back 7 = .ok (.ifCond .ne 8, 3) := by decide +kernel
theorem dX6_back_10 : decode cX6_back 10 = .ok (.aload_n 0, 1) := by decide +kernel
theorem dX6_back_11 : decode cX6_back 11 = .ok (.invokevirtual 164, 3) := by decide +kernel
theorem dX6_back_14 : decode cX6_back 14 = .ok (.ireturn, 1) := by decide +kernel
theorem dX6_back_15 : decode cX6_back 15 = .ok (.aload_n 0, 1) := by decide +kernel
theorem dX6_back_16 : decode cX6_back 16 = .ok (.getfield 19, 3) := by decide +kernel
theorem dX6_back_19 : decode cX6_back 19 = .ok (.aload_n 0, 1) := by decide +kernel
theorem dX6_back_20 : decode cX6_back 20 = .ok (.getfield 10, 3) := by decide +kernel
theorem dX6_back_23 : decode cX6_back 23 = .ok (.invokevirtual 167, 3) := by decide +kernel
theorem dX6_back_26 : decode cX6_back 26 = .ok (.aload_n 0, 1) := by decide +kernel
theorem dX6_back_27 : decode cX6_back 27 = .ok (.getfield 19, 3) := by decide +kernel
theorem dX6_back_30 : decode cX6_back 30 = .ok (.invokevirtual 163, 3) := by decide +kernel
theorem dX6_back_33 : decode cX6_back 33 = .ok (.ireturn, 1) := by decide +kernel
theorem dX6_told_0 : decode cX6_told 0 = .ok (.iload_n 1, 1) := by decide +kernel
theorem dX6_told_1 : decode cX6_told 1 = .ok (.bipush 6, 2) := by decide +kernel
theorem dX6_told_3 : decode cX6_told 3 = .ok (.invokestatic 51, 3) := by decide +kernel
theorem dX6_told_6 : decode cX6_told 6 = .ok (.ifCond .ne 8, 3) := by decide +kernel
theorem dX6_told_9 : decode cX6_told 9 = .ok (.aload_n 0, 1) := by decide +kernel
theorem dX6_told_10 : decode cX6_told 10 = .ok (.invokevirtual 59, 3) := by decide +kernel
theorem dX6_told_13 : decode cX6_told 13 = .ok (.ireturn, 1) := by decide +kernel
theorem dX6_told_14 : decode cX6_told 14 = .ok (.aload_n 0, 1) := by decide +kernel
theorem dX6_told_15 : decode cX6_told 15 = .ok (.iload_n 1, 1) := by decide +kernel
theorem dX6_told_16 : decode cX6_told 16 = .ok (.invokevirtual 170, 3) := by decide +kernel
theorem dX6_told_19 : decode cX6_told 19 = .ok (.ireturn, 1) := by decide +kernel
theorem dX6_digest_0 : decode cX6_digest 0 = .ok (.aload_n 0, 1) := by decide +kernel
theorem dX6_digest_1 : decode cX6_digest 1 = .ok (.getfield 33, 3) := by decide +kernel
theorem dX6_digest_4 : decode cX6_digest 4 = .ok (.aload_n 0, 1) := by decide +kernel
theorem dX6_digest_5 : decode cX6_digest 5 = .ok (.getfield 10, 3) := by decide +kernel
theorem dX6_digest_8 : decode cX6_digest 8 = .ok (.iconst (-1), 1) := by decide +kernel
theorem dX6_digest_9 : decode cX6_digest 9 = .ok (.invokevirtual 88, 3) := by decide +kernel
theorem dX6_digest_12 : decode cX6_digest 12 = .ok (.aload_n 0, 1) := by decide +kernel
theorem dX6_digest_13 : decode cX6_digest 13 = .ok (.getfield 40, 3) := by decide +kernel
theorem dX6_digest_16 : decode cX6_digest 16 = .ok (.aload_n 0, 1) := by decide +kernel
theorem dX6_digest_17 : decode cX6_digest 17 = .ok (.getfield 10, 3) := by decide +kernel
theorem dX6_digest_20 : decode cX6_digest 20 = .ok (.iconst (-1), 1) := by decide +kernel
theorem dX6_digest_21 : decode cX6_digest 21 = .ok (.invokevirtual 107, 3) := by decide +kernel
theorem dX6_digest_24 : decode cX6_digest 24 = .ok (.aload_n 0, 1) := by decide +kernel
theorem dX6_digest_25 : decode cX6_digest 25 = .ok (.getfield 47, 3) := by decide +kernel
theorem dX6_digest_28 : decode cX6_digest 28 = .ok (.aload_n 0, 1) := by decide +kernel
theorem dX6_digest_29 : decode cX6_digest 29 = .ok (.getfield 10, 3) := by decide +kernel
theorem dX6_digest_32 : decode cX6_digest 32 = .ok (.iconst 2, 1) := by decide +kernel
theorem dX6_digest_33 : decode cX6_digest 33 = .ok (.invokevirtual 127, 3) := by decide +kernel
theorem dX6_digest_36 : decode cX6_digest 36 = .ok (.ldc2_w 173, 3) := by decide +kernel
theorem dX6_digest_39 : decode cX6_digest 39 = .ok (.lstore_n 1, 1) := by decide +kernel
theorem dX6_digest_40 : decode cX6_digest 40 = .ok (.iconst 0, 1) := by decide +kernel
theorem dX6_digest_41 : decode cX6_digest 41 = .ok (.istore_n 3, 1) := by decide +kernel
theorem dX6_digest_42 : decode cX6_digest 42 = .ok (.iload_n 3, 1) := by decide +kernel
theorem dX6_digest_43 : decode cX6_digest 43 = .ok (.bipush 6, 2) := by decide +kernel
theorem dX6_digest_45 : decode cX6_digest 45 = .ok (.if_icmp .ge 19, 3) := by decide +kernel
theorem dX6_digest_48 : decode cX6_digest 48 = .ok (.lload_n 1, 1) := by decide +kernel
theorem dX6_digest_49 : decode cX6_digest 49 = .ok (.aload_n 0, 1) := by decide +kernel
theorem dX6_digest_50 : decode cX6_digest 50 = .ok (.iload_n 3, 1) := by decide +kernel
theorem dX6_digest_51 : decode cX6_digest 51 = .ok (.invokevirtual 170, 3) := by decide +kernel
theorem dX6_digest_54 : decode cX6_digest 54 = .ok (.invokestatic 175, 3) := by decide +kernel
theorem dX6_digest_57 : decode cX6_digest 57 = .ok (.lstore_n 1, 1) := by decide +kernel
theorem dX6_digest_58 : decode cX6_digest 58 = .ok (.iinc 3 1, 3) := by decide +kernel
theorem dX6_digest_61 : decode cX6_digest 61 = .ok (.goto (-19), 3) := by decide +kernel
theorem dX6_digest_64 : decode cX6_digest 64 = .ok (.iconst 0, 1) := by decide +kernel
theorem dX6_digest_65 : decode cX6_digest 65 = .ok (.istore_n 3, 1) := by decide +kernel
theorem dX6_digest_66 : decode cX6_digest 66 = .ok (.iload_n 3, 1) := by decide +kernel
theorem dX6_digest_67 : decode cX6_digest 67 = .ok (.aload_n 0, 1) := by decide +kernel
theorem dX6_digest_68 : decode cX6_digest 68 = .ok (.getfield 10, 3) := by decide +kernel
theorem dX6_digest_71 : decode cX6_digest 71 = .ok (.invokevirtual 63, 3) := by decide +kernel
theorem dX6_digest_74 : decode cX6_digest 74 = .ok (.if_icmp .ge 36, 3) := by decide +kernel
theorem dX6_digest_77 : decode cX6_digest 77 = .ok (.iconst 0, 1) := by decide +kernel
theorem dX6_digest_78 : decode cX6_digest 78 = .ok (.istore 4, 2) := by decide +kernel
theorem dX6_digest_80 : decode cX6_digest 80 = .ok (.iload 4, 2) := by decide +kernel
theorem dX6_digest_82 : decode cX6_digest 82 = .ok (.iconst 5, 1) := by decide +kernel
theorem dX6_digest_83 : decode cX6_digest 83 = .ok (.if_icmp .ge 21, 3) := by decide +kernel
theorem dX6_digest_86 : decode cX6_digest 86 = .ok (.lload_n 1, 1) := by decide +kernel
theorem dX6_digest_87 : decode cX6_digest 87 = .ok (.aload_n 0, 1) := by decide +kernel
theorem dX6_digest_88 : decode cX6_digest 88 = .ok (.iload_n 3, 1) := by decide +kernel
theorem dX6_digest_89 : decode cX6_digest 89 = .ok (.iload 4, 2) := by decide +kernel
theorem dX6_digest_91 : decode cX6_digest 91 = .ok (.invokevirtual 92, 3) := by decide +kernel
theorem dX6_digest_94 : decode cX6_digest 94 = .ok (.invokestatic 175, 3) := by decide +kernel
theorem dX6_digest_97 : decode cX6_digest 97 = .ok (.lstore_n 1, 1) := by decide +kernel
theorem dX6_digest_98 : decode cX6_digest 98 = .ok (.iinc 4 1, 3) := by decide +kernel
theorem dX6_digest_101 : decode cX6_digest 101 = .ok (.goto (-21), 3) := by decide +kernel
theorem dX6_digest_104 : decode cX6_digest 104 = .ok (.iinc 3 1, 3) := by decide +kernel
theorem dX6_digest_107 : decode cX6_digest 107 = .ok (.goto (-41), 3) := by decide +kernel
theorem dX6_digest_110 : decode cX6_digest 110 = .ok (.iconst 0, 1) := by decide +kernel
theorem dX6_digest_111 : decode cX6_digest 111 = .ok (.istore_n 3, 1) := by decide +kernel
theorem dX6_digest_112 : decode cX6_digest 112 = .ok (.iload_n 3, 1) := by decide +kernel
theorem dX6_digest_113 : decode cX6_digest 113 = .ok (.bipush 10, 2) := by decide +kernel
theorem dX6_digest_115 : decode cX6_digest 115 = .ok (.if_icmp .ge 16, 3) := by decide +kernel
theorem dX6_digest_118 : decode cX6_digest 118 = .ok (.aload_n 0, 1) := by decide +kernel
theorem dX6_digest_119 : decode cX6_digest 119 = .ok (.lload_n 1, 1) := by decide +kernel
theorem dX6_digest_120 : decode cX6_digest 120 = .ok (.iload_n 3, 1) := by decide +kernel
theorem dX6_digest_121 : decode cX6_digest 121 = .ok (.invokevirtual 179, 3) := by decide +kernel
theorem dX6_digest_124 : decode cX6_digest 124 = .ok (.lstore_n 1, 1) := by decide +kernel
theorem dX6_digest_125 : decode cX6_digest 125 = .ok (.iinc 3 1, 3) := by decide +kernel
theorem dX6_digest_128 : decode cX6_digest 128 = .ok (.goto (-16), 3) := by decide +kernel
theorem dX6_digest_131 : decode cX6_digest 131 = .ok (.iconst 0, 1) := by decide +kernel
theorem dX6_digest_132 : decode cX6_digest 132 = .ok (.istore_n 3, 1) := by decide +kernel
theorem dX6_digest_133 : decode cX6_digest 133 = .ok (.iload_n 3, 1) := by decide +kernel
theorem dX6_digest_134 : decode cX6_digest 134 = .ok (.iconst 5, 1) := by decide +kernel
theorem dX6_digest_135 : decode cX6_digest 135 = .ok (.if_icmp .ge 19, 3) := by decide +kernel
theorem dX6_digest_138 : decode cX6_digest 138 = .ok (.lload_n 1, 1) := by decide +kernel
theorem dX6_digest_139 : decode cX6_digest 139 = .ok (.aload_n 0, 1) := by decide +kernel
theorem dX6_digest_140 : decode cX6_digest 140 = .ok (.iload_n 3, 1) := by decide +kernel
theorem dX6_digest_141 : decode cX6_digest 141 = .ok (.invokevirtual 112, 3) := by decide +kernel
theorem dX6_digest_144 : decode cX6_digest 144 = .ok (.invokestatic 175, 3) := by decide +kernel
theorem dX6_digest_147 : decode cX6_digest 147 = .ok (.lstore_n 1, 1) := by decide +kernel
theorem dX6_digest_148 : decode cX6_digest 148 = .ok (.iinc 3 1, 3) := by decide +kernel
theorem dX6_digest_151 : decode cX6_digest 151 = .ok (.goto (-18), 3) := by decide +kernel
theorem dX6_digest_154 : decode cX6_digest 154 = .ok (.lload_n 1, 1) := by decide +kernel
theorem dX6_digest_155 : decode cX6_digest 155 = .ok (.aload_n 0, 1) := by decide +kernel
theorem dX6_digest_156 : decode cX6_digest 156 = .ok (.getfield 47, 3) := by decide +kernel
theorem dX6_digest_159 : decode cX6_digest 159 = .ok (.invokevirtual 136, 3) := by decide +kernel
theorem dX6_digest_162 : decode cX6_digest 162 = .ok (.invokestatic 175, 3) := by decide +kernel
theorem dX6_digest_165 : decode cX6_digest 165 = .ok (.lreturn, 1) := by decide +kernel
theorem dX6_below_0 : decode cX6_below 0 = .ok (.iload_n 0, 1) := by decide +kernel
theorem dX6_below_1 : decode cX6_below 1 = .ok (.ifCond .lt 12, 3) := by decide +kernel
theorem dX6_below_4 : decode cX6_below 4 = .ok (.iload_n 0, 1) := by decide +kernel
theorem dX6_below_5 : decode cX6_below 5 = .ok (.iload_n 1, 1) := by decide +kernel
theorem dX6_below_6 : decode cX6_below 6 = .ok (.if_icmp .ge 7, 3) := by decide +kernel
theorem dX6_below_9 : decode cX6_below 9 = .ok (.iconst 1, 1) := by decide +kernel
theorem dX6_below_10 : decode cX6_below 10 = .ok (.goto 4, 3) := by decide +kernel
theorem dX6_below_13 : decode cX6_below 13 = .ok (.iconst 0, 1) := by decide +kernel
theorem dX6_below_14 : decode cX6_below 14 = .ok (.ireturn, 1) := by decide +kernel
theorem dX6_isName_0 : decode cX6_isName 0 = .ok (.iload_n 0, 1) := by decide +kernel
theorem dX6_isName_1 : decode cX6_isName 1 = .ok (.bipush 10, 2) := by decide +kernel
theorem dX6_isName_3 : decode cX6_isName 3 = .ok (.invokestatic 51, 3) := by decide +kernel
theorem dX6_isName_6 : decode cX6_isName 6 = .ok (.ireturn, 1) := by decide +kernel
theorem dX6_isRounds_0 : decode cX6_isRounds 0 = .ok (.iload_n 0, 1) := by decide +kernel
theorem dX6_isRounds_1 : decode cX6_isRounds 1 = .ok (.bipush 10, 2) := by decide +kernel
theorem dX6_isRounds_3 : decode cX6_isRounds 3 = .ok (.invokestatic 51, 3) := by decide +kernel
theorem dX6_isRounds_6 : decode cX6_isRounds 6 = .ok (.ireturn, 1) := by decide +kernel
theorem dX6_isLine_0 : decode cX6_isLine 0 = .ok (.iload_n 1, 1) := by decide +kernel
theorem dX6_isLine_1 : decode cX6_isLine 1 = .ok (.aload_n 0, 1) := by decide +kernel
theorem dX6_isLine_2 : decode cX6_isLine 2 = .ok (.getfield 10, 3) := by decide +kernel
theorem dX6_isLine_5 : decode cX6_isLine 5 = .ok (.invokevirtual 63, 3) := by decide +kernel
theorem dX6_isLine_8 : decode cX6_isLine 8 = .ok (.invokestatic 51, 3) := by decide +kernel
theorem dX6_isLine_11 : decode cX6_isLine 11 = .ok (.ireturn, 1) := by decide +kernel
theorem dX6_asNumber_0 : decode cX6_asNumber 0 = .ok (.iload_n 0, 1) := by decide +kernel
theorem dX6_asNumber_1 : decode cX6_asNumber 1 = .ok (.ifCond .eq 7, 3) := by decide +kernel
theorem dX6_asNumber_4 : decode cX6_asNumber 4 = .ok (.iconst 1, 1) := by decide +kernel
theorem dX6_asNumber_5 : decode cX6_asNumber 5 = .ok (.goto 4, 3) := by decide +kernel
theorem dX6_asNumber_8 : decode cX6_asNumber 8 = .ok (.iconst 0, 1) := by decide +kernel
theorem dX6_asNumber_9 : decode cX6_asNumber 9 = .ok (.ireturn, 1) := by decide +kernel
theorem dX6_bit_0 : decode cX6_bit 0 = .ok (.iconst 1, 1) := by decide +kernel
theorem dX6_bit_1 : decode cX6_bit 1 = .ok (.iload_n 0, 1) := by decide +kernel
theorem dX6_bit_2 : decode cX6_bit 2 = .ok (.ishl, 1) := by decide +kernel
theorem dX6_bit_3 : decode cX6_bit 3 = .ok (.ireturn, 1) := by decide +kernel
theorem dX6_hasBit_0 : decode cX6_hasBit 0 = .ok (.iload_n 0, 1) := by decide +kernel
theorem dX6_hasBit_1 : decode cX6_hasBit 1 = .ok (.iload_n 1, 1) := by decide +kernel
theorem dX6_hasBit_2 : decode cX6_hasBit 2 = .ok (.invokestatic 182, 3) := by decide +kernel
theorem dX6_hasBit_5 : decode cX6_hasBit 5 = .ok (.iand, 1) := by decide +kernel
theorem dX6_hasBit_6 : decode cX6_hasBit 6 = .ok (.ifCond .eq 7, 3) := by decide +kernel
theorem dX6_hasBit_9 : decode cX6_hasBit 9 = .ok (.iconst 1, 1) := by decide +kernel
theorem dX6_hasBit_10 : decode cX6_hasBit 10 = .ok (.goto 4, 3) := by decide +kernel
theorem dX6_hasBit_13 : decode cX6_hasBit 13 = .ok (.iconst 0, 1) := by decide +kernel
theorem dX6_hasBit_14 : decode cX6_hasBit 14 = .ok (.ireturn, 1) := by decide +kernel
theorem dX6_refuseBad_0 : decode cX6_refuseBad 0 = .ok (.aload_n 0, 1) := by decide +kernel
theorem dX6_refuseBad_1 : decode cX6_refuseBad 1 = .ok (.dup, 1) := by decide +kernel
theorem dX6_refuseBad_2 : decode cX6_refuseBad 2 = .ok (.getfield 185, 3) := by decide +kernel
theorem dX6_refuseBad_5 : decode cX6_refuseBad 5 = .ok (.iconst 1, 1) := by decide +kernel
theorem dX6_refuseBad_6 : decode cX6_refuseBad 6 = .ok (.iadd, 1) := by decide +kernel
theorem dX6_refuseBad_7 : decode cX6_refuseBad 7 = .ok (.putfield 185, 3) := by decide +kernel
theorem dX6_refuseBad_10 : decode cX6_refuseBad 10 = .ok (.bipush (-2), 2) := by decide +kernel
theorem dX6_refuseBad_12 : decode cX6_refuseBad 12 = .ok (.ireturn, 1) := by decide +kernel
theorem dX6_refuseNo_0 : decode cX6_refuseNo 0 = .ok (.aload_n 0, 1) := by decide +kernel
theorem dX6_refuseNo_1 : decode cX6_refuseNo 1 = .ok (.dup, 1) := by decide +kernel
theorem dX6_refuseNo_2 : decode cX6_refuseNo 2 = .ok (.getfield 189, 3) := by decide +kernel
theorem dX6_refuseNo_5 : decode cX6_refuseNo 5 = .ok (.iconst 1, 1) := by decide +kernel
theorem dX6_refuseNo_6 : decode cX6_refuseNo 6 = .ok (.iadd, 1) := by decide +kernel
theorem dX6_refuseNo_7 : decode cX6_refuseNo 7 = .ok (.putfield 189, 3) := by decide +kernel
theorem dX6_refuseNo_10 : decode cX6_refuseNo 10 = .ok (.bipush (-3), 2) := by decide +kernel
theorem dX6_refuseNo_12 : decode cX6_refuseNo 12 = .ok (.ireturn, 1) := by decide +kernel
theorem dX6_refuseFull_0 : decode cX6_refuseFull 0 = .ok (.aload_n 0, 1) := by decide +kernel
theorem dX6_refuseFull_1 : decode cX6_refuseFull 1 = .ok (.dup, 1) := by decide +kernel
theorem dX6_refuseFull_2 : decode cX6_refuseFull 2 = .ok (.getfield 192, 3) := by decide +kernel
theorem dX6_refuseFull_5 : decode cX6_refuseFull 5 = .ok (.iconst 1, 1) := by decide +kernel
theorem dX6_refuseFull_6 : decode cX6_refuseFull 6 = .ok (.iadd, 1) := by decide +kernel
theorem dX6_refuseFull_7 : decode cX6_refuseFull 7 = .ok (.putfield 192, 3) := by decide +kernel
theorem dX6_refuseFull_10 : decode cX6_refuseFull 10 = .ok (.bipush (-4), 2) := by decide +kernel
theorem dX6_refuseFull_12 : decode cX6_refuseFull 12 = .ok (.ireturn, 1) := by decide +kernel
theorem dX6_tally_0 : decode cX6_tally 0 = .ok (.iload_n 1, 1) := by decide +kernel
theorem dX6_tally_1 : decode cX6_tally 1 = .ok (.tableswitch 66 0 4 #[35, 40, 45, 50, 58], 35) := by decide +kernel
theorem dX6_tally_36 : decode cX6_tally 36 = .ok (.aload_n 0, 1) := by decide +kernel
theorem dX6_tally_37 : decode cX6_tally 37 = .ok (.getfield 185, 3) := by decide +kernel
theorem dX6_tally_40 : decode cX6_tally 40 = .ok (.ireturn, 1) := by decide +kernel
theorem dX6_tally_41 : decode cX6_tally 41 = .ok (.aload_n 0, 1) := by decide +kernel
theorem dX6_tally_42 : decode cX6_tally 42 = .ok (.getfield 189, 3) := by decide +kernel
theorem dX6_tally_45 : decode cX6_tally 45 = .ok (.ireturn, 1) := by decide +kernel
theorem dX6_tally_46 : decode cX6_tally 46 = .ok (.aload_n 0, 1) := by decide +kernel
theorem dX6_tally_47 : decode cX6_tally 47 = .ok (.getfield 192, 3) := by decide +kernel
theorem dX6_tally_50 : decode cX6_tally 50 = .ok (.ireturn, 1) := by decide +kernel
theorem dX6_tally_51 : decode cX6_tally 51 = .ok (.aload_n 0, 1) := by decide +kernel
theorem dX6_tally_52 : decode cX6_tally 52 = .ok (.getfield 26, 3) := by decide +kernel
theorem dX6_tally_55 : decode cX6_tally 55 = .ok (.invokevirtual 139, 3) := by decide +kernel
theorem dX6_tally_58 : decode cX6_tally 58 = .ok (.ireturn, 1) := by decide +kernel
theorem dX6_tally_59 : decode cX6_tally 59 = .ok (.aload_n 0, 1) := by decide +kernel
theorem dX6_tally_60 : decode cX6_tally 60 = .ok (.getfield 10, 3) := by decide +kernel
theorem dX6_tally_63 : decode cX6_tally 63 = .ok (.invokevirtual 63, 3) := by decide +kernel
theorem dX6_tally_66 : decode cX6_tally 66 = .ok (.ireturn, 1) := by decide +kernel
theorem dX6_tally_67 : decode cX6_tally 67 = .ok (.aload_n 0, 1) := by decide +kernel
theorem dX6_tally_68 : decode cX6_tally 68 = .ok (.getfield 19, 3) := by decide +kernel
theorem dX6_tally_71 : decode cX6_tally 71 = .ok (.invokevirtual 163, 3) := by decide +kernel
theorem dX6_tally_74 : decode cX6_tally 74 = .ok (.ireturn, 1) := by decide +kernel
theorem dX6_lineDetail_0 : decode cX6_lineDetail 0 = .ok (.iload_n 2, 1) := by decide +kernel
theorem dX6_lineDetail_1 : decode cX6_lineDetail 1 = .ok (.tableswitch 64 0 3 #[31, 40, 49, 58], 31) := by decide +kernel
theorem dX6_lineDetail_32 : decode cX6_lineDetail 32 = .ok (.aload_n 0, 1) := by decide +kernel
theorem dX6_lineDetail_33 : decode cX6_lineDetail 33 = .ok (.getfield 10, 3) := by decide +kernel
theorem dX6_lineDetail_36 : decode cX6_lineDetail 36 = .ok (.iload_n 1, 1) := by decide +kernel
theorem dX6_lineDetail_37 : decode cX6_lineDetail 37 = .ok (.invokevirtual 195, 3) := by decide +kernel
theorem dX6_lineDetail_40 : decode cX6_lineDetail 40 = .ok (.ireturn, 1) := by decide +kernel
theorem dX6_lineDetail_41 : decode cX6_lineDetail 41 = .ok (.aload_n 0, 1) := by decide +kernel
theorem dX6_lineDetail_42 : decode cX6_lineDetail 42 = .ok (.getfield 10, 3) := by decide +kernel
theorem dX6_lineDetail_45 : decode cX6_lineDetail 45 = .ok (.iload_n 1, 1) := by decide +kernel
theorem dX6_lineDetail_46 : decode cX6_lineDetail 46 = .ok (.invokevirtual 198, 3) := by decide +kernel
theorem dX6_lineDetail_49 : decode cX6_lineDetail 49 = .ok (.ireturn, 1) := by decide +kernel
theorem dX6_lineDetail_50 : decode cX6_lineDetail 50 = .ok (.aload_n 0, 1) := by decide +kernel
theorem dX6_lineDetail_51 : decode cX6_lineDetail 51 = .ok (.getfield 10, 3) := by decide +kernel
theorem dX6_lineDetail_54 : decode cX6_lineDetail 54 = .ok (.iload_n 1, 1) := by decide +kernel
theorem dX6_lineDetail_55 : decode cX6_lineDetail 55 = .ok (.invokevirtual 201, 3) := by decide +kernel
theorem dX6_lineDetail_58 : decode cX6_lineDetail 58 = .ok (.ireturn, 1) := by decide +kernel
theorem dX6_lineDetail_59 : decode cX6_lineDetail 59 = .ok (.aload_n 0, 1) := by decide +kernel
theorem dX6_lineDetail_60 : decode cX6_lineDetail 60 = .ok (.iload_n 1, 1) := by decide +kernel
theorem dX6_lineDetail_61 : decode cX6_lineDetail 61 = .ok (.invokevirtual 204, 3) := by decide +kernel
theorem dX6_lineDetail_64 : decode cX6_lineDetail 64 = .ok (.ireturn, 1) := by decide +kernel
theorem dX6_lineDetail_65 : decode cX6_lineDetail 65 = .ok (.aload_n 0, 1) := by decide +kernel
theorem dX6_lineDetail_66 : decode cX6_lineDetail 66 = .ok (.iload_n 1, 1) := by decide +kernel
theorem dX6_lineDetail_67 : decode cX6_lineDetail 67 = .ok (.invokevirtual 207, 3) := by decide +kernel
theorem dX6_lineDetail_70 : decode cX6_lineDetail 70 = .ok (.ireturn, 1) := by decide +kernel
theorem dX6_writesOf_0 : decode cX6_writesOf 0 = .ok (.aload_n 0, 1) := by decide +kernel
theorem dX6_writesOf_1 : decode cX6_writesOf 1 = .ok (.getfield 10, 3) := by decide +kernel
theorem dX6_writesOf_4 : decode cX6_writesOf 4 = .ok (.iload_n 1, 1) := by decide +kernel
theorem dX6_writesOf_5 : decode cX6_writesOf 5 = .ok (.invokevirtual 198, 3) := by decide +kernel
theorem dX6_writesOf_8 : decode cX6_writesOf 8 = .ok (.istore_n 2, 1) := by decide +kernel
theorem dX6_writesOf_9 : decode cX6_writesOf 9 = .ok (.aload_n 0, 1) := by decide +kernel
theorem dX6_writesOf_10 : decode cX6_writesOf 10 = .ok (.getfield 10, 3) := by decide +kernel
theorem dX6_writesOf_13 : decode cX6_writesOf 13 = .ok (.iload_n 1, 1) := by decide +kernel
theorem dX6_writesOf_14 : decode cX6_writesOf 14 = .ok (.invokevirtual 195, 3) := by decide +kernel
theorem dX6_writesOf_17 : decode cX6_writesOf 17 = .ok (.iconst 3, 1) := by decide +kernel
theorem dX6_writesOf_18 : decode cX6_writesOf 18 = .ok (.if_icmp .ne 14, 3) := by decide +kernel
theorem dX6_writesOf_21 : decode cX6_writesOf 21 = .ok (.aload_n 0, 1) := by decide +kernel
theorem dX6_writesOf_22 : decode cX6_writesOf 22 = .ok (.getfield 33, 3) := by decide +kernel
theorem dX6_writesOf_25 : decode cX6_writesOf 25 = .ok (.iload_n 2, 1) := by decide +kernel
theorem dX6_writesOf_26 : decode cX6_writesOf 26 = .ok (.invokevirtual 103, 3) := by decide +kernel
theorem dX6_writesOf_29 : decode cX6_writesOf 29 = .ok (.goto 7, 3) := by decide +kernel
theorem dX6_writesOf_32 : decode cX6_writesOf 32 = .ok (.iload_n 2, 1) := by decide +kernel
theorem dX6_writesOf_33 : decode cX6_writesOf 33 = .ok (.invokestatic 182, 3) := by decide +kernel
theorem dX6_writesOf_36 : decode cX6_writesOf 36 = .ok (.ireturn, 1) := by decide +kernel
theorem dX6_readsOf_0 : decode cX6_readsOf 0 = .ok (.aload_n 0, 1) := by decide +kernel
theorem dX6_readsOf_1 : decode cX6_readsOf 1 = .ok (.getfield 10, 3) := by decide +kernel
theorem dX6_readsOf_4 : decode cX6_readsOf 4 = .ok (.iload_n 1, 1) := by decide +kernel
theorem dX6_readsOf_5 : decode cX6_readsOf 5 = .ok (.invokevirtual 198, 3) := by decide +kernel
theorem dX6_readsOf_8 : decode cX6_readsOf 8 = .ok (.istore_n 2, 1) := by decide +kernel
theorem dX6_readsOf_9 : decode cX6_readsOf 9 = .ok (.aload_n 0, 1) := by decide +kernel
theorem dX6_readsOf_10 : decode cX6_readsOf 10 = .ok (.getfield 10, 3) := by decide +kernel
theorem dX6_readsOf_13 : decode cX6_readsOf 13 = .ok (.iload_n 1, 1) := by decide +kernel
theorem dX6_readsOf_14 : decode cX6_readsOf 14 = .ok (.invokevirtual 201, 3) := by decide +kernel
theorem dX6_readsOf_17 : decode cX6_readsOf 17 = .ok (.istore_n 3, 1) := by decide +kernel
theorem dX6_readsOf_18 : decode cX6_readsOf 18 = .ok (.aload_n 0, 1) := by decide +kernel
theorem dX6_readsOf_19 : decode cX6_readsOf 19 = .ok (.getfield 10, 3) := by decide +kernel
theorem dX6_readsOf_22 : decode cX6_readsOf 22 = .ok (.iload_n 1, 1) := by decide +kernel
theorem dX6_readsOf_23 : decode cX6_readsOf 23 = .ok (.invokevirtual 195, 3) := by decide +kernel
theorem dX6_readsOf_26 : decode cX6_readsOf 26 = .ok (.tableswitch 47 0 2 #[26, 28, 33], 26) := by decide +kernel
theorem dX6_readsOf_52 : decode cX6_readsOf 52 = .ok (.iconst 0, 1) := by decide +kernel
theorem dX6_readsOf_53 : decode cX6_readsOf 53 = .ok (.ireturn, 1) := by decide +kernel
theorem dX6_readsOf_54 : decode cX6_readsOf 54 = .ok (.iload_n 3, 1) := by decide +kernel
theorem dX6_readsOf_55 : decode cX6_readsOf 55 = .ok (.invokestatic 182, 3) := by decide +kernel
theorem dX6_readsOf_58 : decode cX6_readsOf 58 = .ok (.ireturn, 1) := by decide +kernel
theorem dX6_readsOf_59 : decode cX6_readsOf 59 = .ok (.iload_n 3, 1) := by decide +kernel
theorem dX6_readsOf_60 : decode cX6_readsOf 60 = .ok (.invokestatic 182, 3) := by decide +kernel
theorem dX6_readsOf_63 : decode cX6_readsOf 63 = .ok (.aload_n 0, 1) := by decide +kernel
theorem dX6_readsOf_64 : decode cX6_readsOf 64 = .ok (.getfield 33, 3) := by decide +kernel
theorem dX6_readsOf_67 : decode cX6_readsOf 67 = .ok (.iload_n 3, 1) := by decide +kernel
theorem dX6_readsOf_68 : decode cX6_readsOf 68 = .ok (.invokevirtual 103, 3) := by decide +kernel
theorem dX6_readsOf_71 : decode cX6_readsOf 71 = .ok (.ior, 1) := by decide +kernel
theorem dX6_readsOf_72 : decode cX6_readsOf 72 = .ok (.ireturn, 1) := by decide +kernel
theorem dX6_readsOf_73 : decode cX6_readsOf 73 = .ok (.iload_n 2, 1) := by decide +kernel
theorem dX6_readsOf_74 : decode cX6_readsOf 74 = .ok (.invokestatic 182, 3) := by decide +kernel
theorem dX6_readsOf_77 : decode cX6_readsOf 77 = .ok (.iload_n 3, 1) := by decide +kernel
theorem dX6_readsOf_78 : decode cX6_readsOf 78 = .ok (.invokestatic 182, 3) := by decide +kernel
theorem dX6_readsOf_81 : decode cX6_readsOf 81 = .ok (.ior, 1) := by decide +kernel
theorem dX6_readsOf_82 : decode cX6_readsOf 82 = .ok (.ireturn, 1) := by decide +kernel
theorem dX6_disturbs_0 : decode cX6_disturbs 0 = .ok (.aload_n 0, 1) := by decide +kernel
theorem dX6_disturbs_1 : decode cX6_disturbs 1 = .ok (.iload_n 1, 1) := by decide +kernel
theorem dX6_disturbs_2 : decode cX6_disturbs 2 = .ok (.invokevirtual 204, 3) := by decide +kernel
theorem dX6_disturbs_5 : decode cX6_disturbs 5 = .ok (.aload_n 0, 1) := by decide +kernel
theorem dX6_disturbs_6 : decode cX6_disturbs 6 = .ok (.iload_n 2, 1) := by decide +kernel
theorem dX6_disturbs_7 : decode cX6_disturbs 7 = .ok (.invokevirtual 204, 3) := by decide +kernel
theorem dX6_disturbs_10 : decode cX6_disturbs 10 = .ok (.aload_n 0, 1) := by decide +kernel
theorem dX6_disturbs_11 : decode cX6_disturbs 11 = .ok (.iload_n 2, 1) := by decide +kernel
theorem dX6_disturbs_12 : decode cX6_disturbs 12 = .ok (.invokevirtual 207, 3) := by decide +kernel
theorem dX6_disturbs_15 : decode cX6_disturbs 15 = .ok (.ior, 1) := by decide +kernel
theorem dX6_disturbs_16 : decode cX6_disturbs 16 = .ok (.iand, 1) := by decide +kernel
theorem dX6_disturbs_17 : decode cX6_disturbs 17 = .ok (.ifCond .eq 7, 3) := by decide +kernel
theorem dX6_disturbs_20 : decode cX6_disturbs 20 = .ok (.iconst 1, 1) := by decide +kernel
theorem dX6_disturbs_21 : decode cX6_disturbs 21 = .ok (.goto 4, 3) := by decide +kernel
theorem dX6_disturbs_24 : decode cX6_disturbs 24 = .ok (.iconst 0, 1) := by decide +kernel
theorem dX6_disturbs_25 : decode cX6_disturbs 25 = .ok (.ireturn, 1) := by decide +kernel
theorem dX6_groupDetail_0 : decode cX6_groupDetail 0 = .ok (.iload_n 2, 1) := by decide +kernel
theorem dX6_groupDetail_1 : decode cX6_groupDetail 1 = .ok (.lookupswitch 52 #[(0, 27), (1, 43)], 27) := by decide +kernel
theorem dX6_groupDetail_28 : decode cX6_groupDetail 28 = .ok (.aload_n 0, 1) := by decide +kernel
theorem dX6_groupDetail_29 : decode cX6_groupDetail 29 = .ok (.getfield 40, 3) := by decide +kernel
theorem dX6_groupDetail_32 : decode cX6_groupDetail 32 = .ok (.aload_n 0, 1) := by decide +kernel
theorem dX6_groupDetail_33 : decode cX6_groupDetail 33 = .ok (.getfield 40, 3) := by decide +kernel
theorem dX6_groupDetail_36 : decode cX6_groupDetail 36 = .ok (.iload_n 1, 1) := by decide +kernel
theorem dX6_groupDetail_37 : decode cX6_groupDetail 37 = .ok (.invokevirtual 210, 3) := by decide +kernel
theorem dX6_groupDetail_40 : decode cX6_groupDetail 40 = .ok (.invokevirtual 213, 3) := by decide +kernel
theorem dX6_groupDetail_43 : decode cX6_groupDetail 43 = .ok (.ireturn, 1) := by decide +kernel
theorem dX6_groupDetail_44 : decode cX6_groupDetail 44 = .ok (.aload_n 0, 1) := by decide +kernel
theorem dX6_groupDetail_45 : decode cX6_groupDetail 45 = .ok (.getfield 40, 3) := by decide +kernel
theorem dX6_groupDetail_48 : decode cX6_groupDetail 48 = .ok (.iload_n 1, 1) := by decide +kernel
theorem dX6_groupDetail_49 : decode cX6_groupDetail 49 = .ok (.invokevirtual 210, 3) := by decide +kernel
theorem dX6_groupDetail_52 : decode cX6_groupDetail 52 = .ok (.ireturn, 1) := by decide +kernel
theorem dX6_groupDetail_53 : decode cX6_groupDetail 53 = .ok (.aload_n 0, 1) := by decide +kernel
theorem dX6_groupDetail_54 : decode cX6_groupDetail 54 = .ok (.getfield 40, 3) := by decide +kernel
theorem dX6_groupDetail_57 : decode cX6_groupDetail 57 = .ok (.aload_n 0, 1) := by decide +kernel
theorem dX6_groupDetail_58 : decode cX6_groupDetail 58 = .ok (.getfield 40, 3) := by decide +kernel
theorem dX6_groupDetail_61 : decode cX6_groupDetail 61 = .ok (.iload_n 1, 1) := by decide +kernel
theorem dX6_groupDetail_62 : decode cX6_groupDetail 62 = .ok (.invokevirtual 210, 3) := by decide +kernel
theorem dX6_groupDetail_65 : decode cX6_groupDetail 65 = .ok (.invokevirtual 216, 3) := by decide +kernel
theorem dX6_groupDetail_68 : decode cX6_groupDetail 68 = .ok (.ireturn, 1) := by decide +kernel
theorem dX6_counted_0 : decode cX6_counted 0 = .ok (.iload_n 1, 1) := by decide +kernel
theorem dX6_counted_1 : decode cX6_counted 1 = .ok (.tableswitch 63 0 3 #[31, 39, 47, 55], 31) := by decide +kernel
theorem dX6_counted_32 : decode cX6_counted 32 = .ok (.aload_n 0, 1) := by decide +kernel
theorem dX6_counted_33 : decode cX6_counted 33 = .ok (.getfield 40, 3) := by decide +kernel
theorem dX6_counted_36 : decode cX6_counted 36 = .ok (.invokevirtual 219, 3) := by decide +kernel
theorem dX6_counted_39 : decode cX6_counted 39 = .ok (.ireturn, 1) := by decide +kernel
theorem dX6_counted_40 : decode cX6_counted 40 = .ok (.aload_n 0, 1) := by decide +kernel
theorem dX6_counted_41 : decode cX6_counted 41 = .ok (.getfield 40, 3) := by decide +kernel
theorem dX6_counted_44 : decode cX6_counted 44 = .ok (.invokevirtual 222, 3) := by decide +kernel
theorem dX6_counted_47 : decode cX6_counted 47 = .ok (.ireturn, 1) := by decide +kernel
theorem dX6_counted_48 : decode cX6_counted 48 = .ok (.aload_n 0, 1) := by decide +kernel
theorem dX6_counted_49 : decode cX6_counted 49 = .ok (.getfield 40, 3) := by decide +kernel
theorem dX6_counted_52 : decode cX6_counted 52 = .ok (.invokevirtual 225, 3) := by decide +kernel
theorem dX6_counted_55 : decode cX6_counted 55 = .ok (.ireturn, 1) := by decide +kernel
theorem dX6_counted_56 : decode cX6_counted 56 = .ok (.aload_n 0, 1) := by decide +kernel
theorem dX6_counted_57 : decode cX6_counted 57 = .ok (.getfield 33, 3) := by decide +kernel
theorem dX6_counted_60 : decode cX6_counted 60 = .ok (.invokevirtual 228, 3) := by decide +kernel
theorem dX6_counted_63 : decode cX6_counted 63 = .ok (.ireturn, 1) := by decide +kernel
theorem dX6_counted_64 : decode cX6_counted 64 = .ok (.aload_n 0, 1) := by decide +kernel
theorem dX6_counted_65 : decode cX6_counted 65 = .ok (.getfield 40, 3) := by decide +kernel
theorem dX6_counted_68 : decode cX6_counted 68 = .ok (.invokevirtual 231, 3) := by decide +kernel
theorem dX6_counted_71 : decode cX6_counted 71 = .ok (.ireturn, 1) := by decide +kernel
theorem dX6_mayPointTo_0 : decode cX6_mayPointTo 0 = .ok (.iload_n 2, 1) := by decide +kernel
theorem dX6_mayPointTo_1 : decode cX6_mayPointTo 1 = .ok (.ifCond .ne 24, 3) := by decide +kernel
theorem dX6_mayPointTo_4 : decode cX6_mayPointTo 4 = .ok (.aload_n 0, 1) := by decide +kernel
theorem dX6_mayPointTo_5 : decode cX6_mayPointTo 5 = .ok (.getfield 33, 3) := by decide +kernel
theorem dX6_mayPointTo_8 : decode cX6_mayPointTo 8 = .ok (.aload_n 0, 1) := by decide +kernel
theorem dX6_mayPointTo_9 : decode cX6_mayPointTo 9 = .ok (.getfield 10, 3) := by decide +kernel
theorem dX6_mayPointTo_12 : decode cX6_mayPointTo 12 = .ok (.iload_n 3, 1) := by decide +kernel
theorem dX6_mayPointTo_13 : decode cX6_mayPointTo 13 = .ok (.invokevirtual 88, 3) := by decide +kernel
theorem dX6_mayPointTo_16 : decode cX6_mayPointTo 16 = .ok (.aload_n 0, 1) := by decide +kernel
theorem dX6_mayPointTo_17 : decode cX6_mayPointTo 17 = .ok (.getfield 33, 3) := by decide +kernel
theorem dX6_mayPointTo_20 : decode cX6_mayPointTo 20 = .ok (.iload_n 1, 1) := by decide +kernel
theorem dX6_mayPointTo_21 : decode cX6_mayPointTo 21 = .ok (.invokevirtual 103, 3) := by decide +kernel
theorem dX6_mayPointTo_24 : decode cX6_mayPointTo 24 = .ok (.ireturn, 1) := by decide +kernel
theorem dX6_mayPointTo_25 : decode cX6_mayPointTo 25 = .ok (.aload_n 0, 1) := by decide +kernel
theorem dX6_mayPointTo_26 : decode cX6_mayPointTo 26 = .ok (.getfield 40, 3) := by decide +kernel
theorem dX6_mayPointTo_29 : decode cX6_mayPointTo 29 = .ok (.aload_n 0, 1) := by decide +kernel
theorem dX6_mayPointTo_30 : decode cX6_mayPointTo 30 = .ok (.getfield 10, 3) := by decide +kernel
theorem dX6_mayPointTo_33 : decode cX6_mayPointTo 33 = .ok (.iload_n 3, 1) := by decide +kernel
theorem dX6_mayPointTo_34 : decode cX6_mayPointTo 34 = .ok (.invokevirtual 107, 3) := by decide +kernel
theorem dX6_mayPointTo_37 : decode cX6_mayPointTo 37 = .ok (.aload_n 0, 1) := by decide +kernel
theorem dX6_mayPointTo_38 : decode cX6_mayPointTo 38 = .ok (.getfield 40, 3) := by decide +kernel
theorem dX6_mayPointTo_41 : decode cX6_mayPointTo 41 = .ok (.iload_n 1, 1) := by decide +kernel
theorem dX6_mayPointTo_42 : decode cX6_mayPointTo 42 = .ok (.invokevirtual 108, 3) := by decide +kernel
theorem dX6_mayPointTo_45 : decode cX6_mayPointTo 45 = .ok (.ireturn, 1) := by decide +kernel
theorem dX6_mixedName_0 : decode cX6_mixedName 0 = .ok (.lload_n 1, 1) := by decide +kernel
theorem dX6_mixedName_1 : decode cX6_mixedName 1 = .ok (.aload_n 0, 1) := by decide +kernel
theorem dX6_mixedName_2 : decode cX6_mixedName 2 = .ok (.getfield 33, 3) := by decide +kernel
theorem dX6_mixedName_5 : decode cX6_mixedName 5 = .ok (.iload_n 3, 1) := by decide +kernel
theorem dX6_mixedName_6 : decode cX6_mixedName 6 = .ok (.invokevirtual 103, 3) := by decide +kernel
theorem dX6_mixedName_9 : decode cX6_mixedName 9 = .ok (.invokestatic 175, 3) := by decide +kernel
theorem dX6_mixedName_12 : decode cX6_mixedName 12 = .ok (.lstore 4, 2) := by decide +kernel
theorem dX6_mixedName_14 : decode cX6_mixedName 14 = .ok (.lload 4, 2) := by decide +kernel
theorem dX6_mixedName_16 : decode cX6_mixedName 16 = .ok (.aload_n 0, 1) := by decide +kernel
theorem dX6_mixedName_17 : decode cX6_mixedName 17 = .ok (.getfield 40, 3) := by decide +kernel
theorem dX6_mixedName_20 : decode cX6_mixedName 20 = .ok (.iload_n 3, 1) := by decide +kernel
theorem dX6_mixedName_21 : decode cX6_mixedName 21 = .ok (.invokevirtual 108, 3) := by decide +kernel
theorem dX6_mixedName_24 : decode cX6_mixedName 24 = .ok (.invokestatic 175, 3) := by decide +kernel
theorem dX6_mixedName_27 : decode cX6_mixedName 27 = .ok (.lstore 4, 2) := by decide +kernel
theorem dX6_mixedName_29 : decode cX6_mixedName 29 = .ok (.lload 4, 2) := by decide +kernel
theorem dX6_mixedName_31 : decode cX6_mixedName 31 = .ok (.aload_n 0, 1) := by decide +kernel
theorem dX6_mixedName_32 : decode cX6_mixedName 32 = .ok (.iload_n 3, 1) := by decide +kernel
theorem dX6_mixedName_33 : decode cX6_mixedName 33 = .ok (.iconst 1, 1) := by decide +kernel
theorem dX6_mixedName_34 : decode cX6_mixedName 34 = .ok (.invokevirtual 109, 3) := by decide +kernel
theorem dX6_mixedName_37 : decode cX6_mixedName 37 = .ok (.invokestatic 175, 3) := by decide +kernel
theorem dX6_mixedName_40 : decode cX6_mixedName 40 = .ok (.lstore 4, 2) := by decide +kernel
theorem dX6_mixedName_42 : decode cX6_mixedName 42 = .ok (.lload 4, 2) := by decide +kernel
theorem dX6_mixedName_44 : decode cX6_mixedName 44 = .ok (.aload_n 0, 1) := by decide +kernel
theorem dX6_mixedName_45 : decode cX6_mixedName 45 = .ok (.iload_n 3, 1) := by decide +kernel
theorem dX6_mixedName_46 : decode cX6_mixedName 46 = .ok (.iconst 2, 1) := by decide +kernel
theorem dX6_mixedName_47 : decode cX6_mixedName 47 = .ok (.invokevirtual 109, 3) := by decide +kernel
theorem dX6_mixedName_50 : decode cX6_mixedName 50 = .ok (.invokestatic 175, 3) := by decide +kernel
theorem dX6_mixedName_53 : decode cX6_mixedName 53 = .ok (.lstore 4, 2) := by decide +kernel
theorem dX6_mixedName_55 : decode cX6_mixedName 55 = .ok (.lload 4, 2) := by decide +kernel
theorem dX6_mixedName_57 : decode cX6_mixedName 57 = .ok (.aload_n 0, 1) := by decide +kernel
theorem dX6_mixedName_58 : decode cX6_mixedName 58 = .ok (.getfield 47, 3) := by decide +kernel
theorem dX6_mixedName_61 : decode cX6_mixedName 61 = .ok (.iload_n 3, 1) := by decide +kernel
theorem dX6_mixedName_62 : decode cX6_mixedName 62 = .ok (.invokevirtual 130, 3) := by decide +kernel
theorem dX6_mixedName_65 : decode cX6_mixedName 65 = .ok (.invokestatic 175, 3) := by decide +kernel
theorem dX6_mixedName_68 : decode cX6_mixedName 68 = .ok (.lstore 4, 2) := by decide +kernel
theorem dX6_mixedName_70 : decode cX6_mixedName 70 = .ok (.lload 4, 2) := by decide +kernel
theorem dX6_mixedName_72 : decode cX6_mixedName 72 = .ok (.aload_n 0, 1) := by decide +kernel
theorem dX6_mixedName_73 : decode cX6_mixedName 73 = .ok (.getfield 47, 3) := by decide +kernel
theorem dX6_mixedName_76 : decode cX6_mixedName 76 = .ok (.iload_n 3, 1) := by decide +kernel
theorem dX6_mixedName_77 : decode cX6_mixedName 77 = .ok (.invokevirtual 133, 3) := by decide +kernel
theorem dX6_mixedName_80 : decode cX6_mixedName 80 = .ok (.invokestatic 175, 3) := by decide +kernel
theorem dX6_mixedName_83 : decode cX6_mixedName 83 = .ok (.lreturn, 1) := by decide +kernel
theorem dX6_mixed_0 : decode cX6_mixed 0 = .ok (.ldc2_w 232, 3) := by decide +kernel
theorem dX6_mixed_3 : decode cX6_mixed 3 = .ok (.lload_n 0, 1) := by decide +kernel
theorem dX6_mixed_4 : decode cX6_mixed 4 = .ok (.lmul, 1) := by decide +kernel
theorem dX6_mixed_5 : decode cX6_mixed 5 = .ok (.iload_n 2, 1) := by decide +kernel
theorem dX6_mixed_6 : decode cX6_mixed 6 = .ok (.i2l, 1) := by decide +kernel
theorem dX6_mixed_7 : decode cX6_mixed 7 = .ok (.ladd, 1) := by decide +kernel
theorem dX6_mixed_8 : decode cX6_mixed 8 = .ok (.lreturn, 1) := by decide +kernel
theorem dX7_init_0 : decode cX7_init 0 = .ok (.aload_n 0, 1) := by decide +kernel
theorem dX7_init_1 : decode cX7_init 1 = .ok (.invokespecial 1, 3) := by decide +kernel
theorem dX7_init_4 : decode cX7_init 4 = .ok (.aload_n 0, 1) := by decide +kernel
theorem dX7_init_5 : decode cX7_init 5 = .ok (.bipush 15, 2) := by decide +kernel
theorem dX7_init_7 : decode cX7_init 7 = .ok (.newarray .int, 2) := by decide +kernel
theorem dX7_init_9 : decode cX7_init 9 = .ok (.putfield 7, 3) := by decide +kernel
theorem dX7_init_12 : decode cX7_init 12 = .ok (.aload_n 0, 1) := by decide +kernel
theorem dX7_init_13 : decode cX7_init 13 = .ok (.bipush 15, 2) := by decide +kernel
theorem dX7_init_15 : decode cX7_init 15 = .ok (.newarray .int, 2) := by decide +kernel
theorem dX7_init_17 : decode cX7_init 17 = .ok (.putfield 13, 3) := by decide +kernel
theorem dX7_init_20 : decode cX7_init 20 = .ok (.aload_n 0, 1) := by decide +kernel
theorem dX7_init_21 : decode cX7_init 21 = .ok (.bipush 75, 2) := by decide +kernel
theorem dX7_init_23 : decode cX7_init 23 = .ok (.newarray .int, 2) := by decide +kernel
theorem dX7_init_25 : decode cX7_init 25 = .ok (.putfield 16, 3) := by decide +kernel
theorem dX7_init_28 : decode cX7_init 28 = .ok (.aload_n 0, 1) := by decide +kernel
theorem dX7_init_29 : decode cX7_init 29 = .ok (.iconst 3, 1) := by decide +kernel
theorem dX7_init_30 : decode cX7_init 30 = .ok (.newarray .int, 2) := by decide +kernel
theorem dX7_init_32 : decode cX7_init 32 = .ok (.putfield 19, 3) := by decide +kernel
theorem dX7_init_35 : decode cX7_init 35 = .ok (.aload_n 0, 1) := by decide +kernel
theorem dX7_init_36 : decode cX7_init 36 = .ok (.bipush 120, 2) := by decide +kernel
theorem dX7_init_38 : decode cX7_init 38 = .ok (.newarray .int, 2) := by decide +kernel
theorem dX7_init_40 : decode cX7_init 40 = .ok (.putfield 22, 3) := by decide +kernel
theorem dX7_init_43 : decode cX7_init 43 = .ok (.aload_n 0, 1) := by decide +kernel
theorem dX7_init_44 : decode cX7_init 44 = .ok (.bipush 10, 2) := by decide +kernel
theorem dX7_init_46 : decode cX7_init 46 = .ok (.newarray .int, 2) := by decide +kernel
theorem dX7_init_48 : decode cX7_init 48 = .ok (.putfield 25, 3) := by decide +kernel
theorem dX7_init_51 : decode cX7_init 51 = .ok (.aload_n 0, 1) := by decide +kernel
theorem dX7_init_52 : decode cX7_init 52 = .ok (.bipush 10, 2) := by decide +kernel
theorem dX7_init_54 : decode cX7_init 54 = .ok (.newarray .int, 2) := by decide +kernel
theorem dX7_init_56 : decode cX7_init 56 = .ok (.putfield 28, 3) := by decide +kernel
theorem dX7_init_59 : decode cX7_init 59 = .ok (.aload_n 0, 1) := by decide +kernel
theorem dX7_init_60 : decode cX7_init 60 = .ok (.bipush 10, 2) := by decide +kernel
theorem dX7_init_62 : decode cX7_init 62 = .ok (.newarray .int, 2) := by decide +kernel
theorem dX7_init_64 : decode cX7_init 64 = .ok (.putfield 31, 3) := by decide +kernel
theorem dX7_init_67 : decode cX7_init 67 = .ok (.aload_n 0, 1) := by decide +kernel
theorem dX7_init_68 : decode cX7_init 68 = .ok (.bipush 10, 2) := by decide +kernel
theorem dX7_init_70 : decode cX7_init 70 = .ok (.newarray .int, 2) := by decide +kernel
theorem dX7_init_72 : decode cX7_init 72 = .ok (.putfield 34, 3) := by decide +kernel
theorem dX7_init_75 : decode cX7_init 75 = .ok (.aload_n 0, 1) := by decide +kernel
theorem dX7_init_76 : decode cX7_init 76 = .ok (.bipush 10, 2) := by decide +kernel
theorem dX7_init_78 : decode cX7_init 78 = .ok (.newarray .int, 2) := by decide +kernel
theorem dX7_init_80 : decode cX7_init 80 = .ok (.putfield 37, 3) := by decide +kernel
theorem dX7_init_83 : decode cX7_init 83 = .ok (.aload_n 0, 1) := by decide +kernel
theorem dX7_init_84 : decode cX7_init 84 = .ok (.bipush 70, 2) := by decide +kernel
theorem dX7_init_86 : decode cX7_init 86 = .ok (.newarray .int, 2) := by decide +kernel
theorem dX7_init_88 : decode cX7_init 88 = .ok (.putfield 40, 3) := by decide +kernel
theorem dX7_init_91 : decode cX7_init 91 = .ok (.aload_n 0, 1) := by decide +kernel
theorem dX7_init_92 : decode cX7_init 92 = .ok (.getfield 7, 3) := by decide +kernel
theorem dX7_init_95 : decode cX7_init 95 = .ok (.iconst 0, 1) := by decide +kernel
theorem dX7_init_96 : decode cX7_init 96 = .ok (.iconst 0, 1) := by decide +kernel
theorem dX7_init_97 : decode cX7_init 97 = .ok (.iastore, 1) := by decide +kernel
theorem dX7_init_98 : decode cX7_init 98 = .ok (.return_, 1) := by decide +kernel
theorem dX7_within_0 : decode cX7_within 0 = .ok (.iload_n 0, 1) := by decide +kernel
theorem dX7_within_1 : decode cX7_within 1 = .ok (.iload_n 1, 1) := by decide +kernel
theorem dX7_within_2 : decode cX7_within 2 = .ok (.if_icmp .lt 12, 3) := by decide +kernel
theorem dX7_within_5 : decode cX7_within 5 = .ok (.iload_n 0, 1) := by decide +kernel
theorem dX7_within_6 : decode cX7_within 6 = .ok (.iload_n 2, 1) := by decide +kernel
theorem dX7_within_7 : decode cX7_within 7 = .ok (.if_icmp .gt 7, 3) := by decide +kernel
theorem dX7_within_10 : decode cX7_within 10 = .ok (.iconst 1, 1) := by decide +kernel
theorem dX7_within_11 : decode cX7_within 11 = .ok (.goto 4, 3) := by decide +kernel
theorem dX7_within_14 : decode cX7_within 14 = .ok (.iconst 0, 1) := by decide +kernel
theorem dX7_within_15 : decode cX7_within 15 = .ok (.ireturn, 1) := by decide +kernel
theorem dX7_has_0 : decode cX7_has 0 = .ok (.iload_n 0, 1) := by decide +kernel
theorem dX7_has_1 : decode cX7_has 1 = .ok (.iload_n 1, 1) := by decide +kernel
theorem dX7_has_2 : decode cX7_has 2 = .ok (.ishr, 1) := by decide +kernel
theorem dX7_has_3 : decode cX7_has 3 = .ok (.iconst 1, 1) := by decide +kernel
theorem dX7_has_4 : decode cX7_has 4 = .ok (.iand, 1) := by decide +kernel
theorem dX7_has_5 : decode cX7_has 5 = .ok (.iconst 1, 1) := by decide +kernel
theorem dX7_has_6 : decode cX7_has 6 = .ok (.if_icmp .ne 7, 3) := by decide +kernel
theorem dX7_has_9 : decode cX7_has 9 = .ok (.iconst 1, 1) := by decide +kernel
theorem dX7_has_10 : decode cX7_has 10 = .ok (.goto 4, 3) := by decide +kernel
theorem dX7_has_13 : decode cX7_has 13 = .ok (.iconst 0, 1) := by decide +kernel
theorem dX7_has_14 : decode cX7_has 14 = .ok (.ireturn, 1) := by decide +kernel
theorem dX7_ones_0 : decode cX7_ones 0 = .ok (.iconst 0, 1) := by decide +kernel
theorem dX7_ones_1 : decode cX7_ones 1 = .ok (.istore_n 1, 1) := by decide +kernel
theorem dX7_ones_2 : decode cX7_ones 2 = .ok (.iconst 0, 1) := by decide +kernel
theorem dX7_ones_3 : decode cX7_ones 3 = .ok (.istore_n 2, 1) := by decide +kernel
theorem dX7_ones_4 : decode cX7_ones 4 = .ok (.iload_n 2, 1) := by decide +kernel
theorem dX7_ones_5 : decode cX7_ones 5 = .ok (.bipush 10, 2) := by decide +kernel
theorem dX7_ones_7 : decode cX7_ones 7 = .ok (.if_icmp .ge 17, 3) := by decide +kernel
theorem dX7_ones_10 : decode cX7_ones 10 = .ok (.iload_n 1, 1) := by decide +kernel
theorem dX7_ones_11 : decode cX7_ones 11 = .ok (.iload_n 0, 1) := by decide +kernel
theorem dX7_ones_12 : decode cX7_ones 12 = .ok (.iload_n 2, 1) := by decide +kernel
theorem dX7_ones_13 : decode cX7_ones 13 = .ok (.ishr, 1) := by decide +kernel
theorem dX7_ones_14 : decode cX7_ones 14 = .ok (.iconst 1, 1) := by decide +kernel
theorem dX7_ones_15 : decode cX7_ones 15 = .ok (.iand, 1) := by decide +kernel
theorem dX7_ones_16 : decode cX7_ones 16 = .ok (.iadd, 1) := by decide +kernel
theorem dX7_ones_17 : decode cX7_ones 17 = .ok (.istore_n 1, 1) := by decide +kernel
theorem dX7_ones_18 : decode cX7_ones 18 = .ok (.iinc 2 1, 3) := by decide +kernel
theorem dX7_ones_21 : decode cX7_ones 21 = .ok (.goto (-17), 3) := by decide +kernel
theorem dX7_ones_24 : decode cX7_ones 24 = .ok (.iload_n 1, 1) := by decide +kernel
theorem dX7_ones_25 : decode cX7_ones 25 = .ok (.ireturn, 1) := by decide +kernel
theorem dX7_counts_0 : decode cX7_counts 0 = .ok (.aload_n 0, 1) := by decide +kernel
theorem dX7_counts_1 : decode cX7_counts 1 = .ok (.getfield 19, 3) := by decide +kernel
theorem dX7_counts_4 : decode cX7_counts 4 = .ok (.bipush (-2), 2) := by decide +kernel
theorem dX7_counts_6 : decode cX7_counts 6 = .ok (.iload_n 1, 1) := by decide +kernel
theorem dX7_counts_7 : decode cX7_counts 7 = .ok (.isub, 1) := by decide +kernel
theorem dX7_counts_8 : decode cX7_counts 8 = .ok (.dup2, 1) := by decide +kernel
theorem dX7_counts_9 : decode cX7_counts 9 = .ok (.iaload, 1) := by decide +kernel
theorem dX7_counts_10 : decode cX7_counts 10 = .ok (.iconst 1, 1) := by decide +kernel
theorem dX7_counts_11 : decode cX7_counts 11 = .ok (.iadd, 1) := by decide +kernel
theorem dX7_counts_12 : decode cX7_counts 12 = .ok (.iastore, 1) := by decide +kernel
theorem dX7_counts_13 : decode cX7_counts 13 = .ok (.iload_n 1, 1) := by decide +kernel
theorem dX7_counts_14 : decode cX7_counts 14 = .ok (.ireturn, 1) := by decide +kernel
theorem dX7_isName_0 : decode cX7_isName 0 = .ok (.iload_n 0, 1) := by decide +kernel
theorem dX7_isName_1 : decode cX7_isName 1 = .ok (.iconst 0, 1) := by decide +kernel
theorem dX7_isName_2 : decode cX7_isName 2 = .ok (.bipush 9, 2) := by decide +kernel
theorem dX7_isName_4 : decode cX7_isName 4 = .ok (.invokestatic 43, 3) := by decide +kernel
theorem dX7_isName_7 : decode cX7_isName 7 = .ok (.ireturn, 1) := by decide +kernel
theorem dX7_isLine_0 : decode cX7_isLine 0 = .ok (.iload_n 1, 1) := by decide +kernel
theorem dX7_isLine_1 : decode cX7_isLine 1 = .ok (.iconst 0, 1) := by decide +kernel
theorem dX7_isLine_2 : decode cX7_isLine 2 = .ok (.aload_n 0, 1) := by decide +kernel
theorem dX7_isLine_3 : decode cX7_isLine 3 = .ok (.getfield 7, 3) := by decide +kernel
theorem dX7_isLine_6 : decode cX7_isLine 6 = .ok (.iconst 0, 1) := by decide +kernel
theorem dX7_isLine_7 : decode cX7_isLine 7 = .ok (.iaload, 1) := by decide +kernel
theorem dX7_isLine_8 : decode cX7_isLine 8 = .ok (.iconst 1, 1) := by decide +kernel
theorem dX7_isLine_9 : decode cX7_isLine 9 = .ok (.isub, 1) := by decide +kernel
theorem dX7_isLine_10 : decode cX7_isLine 10 = .ok (.invokestatic 43, 3) := by decide +kernel
theorem dX7_isLine_13 : decode cX7_isLine 13 = .ok (.ireturn, 1) := by decide +kernel
theorem dX7_sortOf_0 : decode cX7_sortOf 0 = .ok (.aload_n 0, 1) := by decide +kernel
theorem dX7_sortOf_1 : decode cX7_sortOf 1 = .ok (.getfield 7, 3) := by decide +kernel
theorem dX7_sortOf_4 : decode cX7_sortOf 4 = .ok (.iconst 1, 1) := by decide +kernel
theorem dX7_sortOf_5 : decode cX7_sortOf 5 = .ok (.iload_n 1, 1) := by decide +kernel
theorem dX7_sortOf_6 : decode cX7_sortOf 6 = .ok (.iadd, 1) := by decide +kernel
theorem dX7_sortOf_7 : decode cX7_sortOf 7 = .ok (.iaload, 1) := by decide +kernel
theorem dX7_sortOf_8 : decode cX7_sortOf 8 = .ok (.bipush 100, 2) := by decide +kernel
theorem dX7_sortOf_10 : decode cX7_sortOf 10 = .ok (.idiv, 1) := by decide +kernel
theorem dX7_sortOf_11 : decode cX7_sortOf 11 = .ok (.ireturn, 1) := by decide +kernel
theorem dX7_xOf_0 : decode cX7_xOf 0 = .ok (.aload_n 0, 1) := by decide +kernel
theorem dX7_xOf_1 : decode cX7_xOf 1 = .ok (.getfield 7, 3) := by decide +kernel
theorem dX7_xOf_4 : decode cX7_xOf 4 = .ok (.iconst 1, 1) := by decide +kernel
theorem dX7_xOf_5 : decode cX7_xOf 5 = .ok (.iload_n 1, 1) := by decide +kernel
theorem dX7_xOf_6 : decode cX7_xOf 6 = .ok (.iadd, 1) := by decide +kernel
theorem dX7_xOf_7 : decode cX7_xOf 7 = .ok (.iaload, 1) := by decide +kernel
theorem dX7_xOf_8 : decode cX7_xOf 8 = .ok (.bipush 10, 2) := by decide +kernel
theorem dX7_xOf_10 : decode cX7_xOf 10 = .ok (.idiv, 1) := by decide +kernel
theorem dX7_xOf_11 : decode cX7_xOf 11 = .ok (.bipush 10, 2) := by decide +kernel
theorem dX7_xOf_13 : decode cX7_xOf 13 = .ok (.irem, 1) := by decide +kernel
theorem dX7_xOf_14 : decode cX7_xOf 14 = .ok (.ireturn, 1) := by decide +kernel
theorem dX7_yOf_0 : decode cX7_yOf 0 = .ok (.aload_n 0, 1) := by decide +kernel
theorem dX7_yOf_1 : decode cX7_yOf 1 = .ok (.getfield 7, 3) := by decide +kernel
theorem dX7_yOf_4 : decode cX7_yOf 4 = .ok (.iconst 1, 1) := by decide +kernel
theorem dX7_yOf_5 : decode cX7_yOf 5 = .ok (.iload_n 1, 1) := by decide +kernel
theorem dX7_yOf_6 : decode cX7_yOf 6 = .ok (.iadd, 1) := by decide +kernel
theorem dX7_yOf_7 : decode cX7_yOf 7 = .ok (.iaload, 1) := by decide +kernel
theorem dX7_yOf_8 : decode cX7_yOf 8 = .ok (.bipush 10, 2) := by decide +kernel
theorem dX7_yOf_10 : decode cX7_yOf 10 = .ok (.irem, 1) := by decide +kernel
theorem dX7_yOf_11 : decode cX7_yOf 11 = .ok (.ireturn, 1) := by decide +kernel
theorem dX7_leaves_0 : decode cX7_leaves 0 = .ok (.aload_n 0, 1) := by decide +kernel
theorem dX7_leaves_1 : decode cX7_leaves 1 = .ok (.getfield 47, 3) := by decide +kernel
theorem dX7_leaves_4 : decode cX7_leaves 4 = .ok (.iconst 5, 1) := by decide +kernel
theorem dX7_leaves_5 : decode cX7_leaves 5 = .ok (.if_icmp .ne 42, 3) := by decide +kernel
theorem dX7_leaves_8 : decode cX7_leaves 8 = .ok (.iconst 0, 1) := by decide +kernel
theorem dX7_leaves_9 : decode cX7_leaves 9 = .ok (.istore_n 1, 1) := by decide +kernel
theorem dX7_leaves_10 : decode cX7_leaves 10 = .ok (.iload_n 1, 1) := by decide +kernel
theorem dX7_leaves_11 : decode cX7_leaves 11 = .ok (.bipush 60, 2) := by decide +kernel
theorem dX7_leaves_13 : decode cX7_leaves 13 = .ok (.if_icmp .ge 24, 3) := by decide +kernel
theorem dX7_leaves_16 : decode cX7_leaves 16 = .ok (.aload_n 0, 1) := by decide +kernel
theorem dX7_leaves_17 : decode cX7_leaves 17 = .ok (.getfield 16, 3) := by decide +kernel
theorem dX7_leaves_20 : decode cX7_leaves 20 = .ok (.iload_n 1, 1) := by decide +kernel
theorem dX7_leaves_21 : decode cX7_leaves 21 = .ok (.aload_n 0, 1) := by decide +kernel
theorem dX7_leaves_22 : decode cX7_leaves 22 = .ok (.getfield 16, 3) := by decide +kernel
theorem dX7_leaves_25 : decode cX7_leaves 25 = .ok (.iload_n 1, 1) := by decide +kernel
theorem dX7_leaves_26 : decode cX7_leaves 26 = .ok (.bipush 15, 2) := by decide +kernel
theorem dX7_leaves_28 : decode cX7_leaves 28 = .ok (.iadd, 1) := by decide +kernel
theorem dX7_leaves_29 : decode cX7_leaves 29 = .ok (.iaload, 1) := by decide +kernel
theorem dX7_leaves_30 : decode cX7_leaves 30 = .ok (.iastore, 1) := by decide +kernel
theorem dX7_leaves_31 : decode cX7_leaves 31 = .ok (.iinc 1 1, 3) := by decide +kernel
theorem dX7_leaves_34 : decode cX7_leaves 34 = .ok (.goto (-24), 3) := by decide +kernel
theorem dX7_leaves_37 : decode cX7_leaves 37 = .ok (.aload_n 0, 1) := by decide +kernel
theorem dX7_leaves_38 : decode cX7_leaves 38 = .ok (.dup, 1) := by decide +kernel
theorem dX7_leaves_39 : decode cX7_leaves 39 = .ok (.getfield 47, 3) := by decide +kernel
theorem dX7_leaves_42 : decode cX7_leaves 42 = .ok (.iconst 1, 1) := by decide +kernel
theorem dX7_leaves_43 : decode cX7_leaves 43 = .ok (.isub, 1) := by decide +kernel
theorem dX7_leaves_44 : decode cX7_leaves 44 = .ok (.putfield 47, 3) := by decide +kernel
theorem dX7_leaves_47 : decode cX7_leaves 47 = .ok (.iconst 0, 1) := by decide +kernel
theorem dX7_leaves_48 : decode cX7_leaves 48 = .ok (.istore_n 1, 1) := by decide +kernel
theorem dX7_leaves_49 : decode cX7_leaves 49 = .ok (.iload_n 1, 1) := by decide +kernel
theorem dX7_leaves_50 : decode cX7_leaves 50 = .ok (.bipush 15, 2) := by decide +kernel
theorem dX7_leaves_52 : decode cX7_leaves 52 = .ok (.if_icmp .ge 29, 3) := by decide +kernel
theorem dX7_leaves_55 : decode cX7_leaves 55 = .ok (.aload_n 0, 1) := by decide +kernel
theorem dX7_leaves_56 : decode cX7_leaves 56 = .ok (.getfield 16, 3) := by decide +kernel
theorem dX7_leaves_59 : decode cX7_leaves 59 = .ok (.bipush 15, 2) := by decide +kernel
theorem dX7_leaves_61 : decode cX7_leaves 61 = .ok (.aload_n 0, 1) := by decide +kernel
theorem dX7_leaves_62 : decode cX7_leaves 62 = .ok (.getfield 47, 3) := by decide +kernel
theorem dX7_leaves_65 : decode cX7_leaves 65 = .ok (.imul, 1) := by decide +kernel
theorem dX7_leaves_66 : decode cX7_leaves 66 = .ok (.iload_n 1, 1) := by decide +kernel
theorem dX7_leaves_67 : decode cX7_leaves 67 = .ok (.iadd, 1) := by decide +kernel
theorem dX7_leaves_68 : decode cX7_leaves 68 = .ok (.aload_n 0, 1) := by decide +kernel
theorem dX7_leaves_69 : decode cX7_leaves 69 = .ok (.getfield 7, 3) := by decide +kernel
theorem dX7_leaves_72 : decode cX7_leaves 72 = .ok (.iload_n 1, 1) := by decide +kernel
theorem dX7_leaves_73 : decode cX7_leaves 73 = .ok (.iaload, 1) := by decide +kernel
theorem dX7_leaves_74 : decode cX7_leaves 74 = .ok (.iastore, 1) := by decide +kernel
theorem dX7_leaves_75 : decode cX7_leaves 75 = .ok (.iinc 1 1, 3) := by decide +kernel
theorem dX7_leaves_78 : decode cX7_leaves 78 = .ok (.goto (-29), 3) := by decide +kernel
theorem dX7_leaves_81 : decode cX7_leaves 81 = .ok (.aload_n 0, 1) := by decide +kernel
theorem dX7_leaves_82 : decode cX7_leaves 82 = .ok (.dup, 1) := by decide +kernel
theorem dX7_leaves_83 : decode cX7_leaves 83 = .ok (.getfield 47, 3) := by decide +kernel
theorem dX7_leaves_86 : decode cX7_leaves 86 = .ok (.iconst 1, 1) := by decide +kernel
theorem dX7_leaves_87 : decode cX7_leaves 87 = .ok (.iadd, 1) := by decide +kernel
theorem dX7_leaves_88 : decode cX7_leaves 88 = .ok (.putfield 47, 3) := by decide +kernel
theorem dX7_leaves_91 : decode cX7_leaves 91 = .ok (.return_, 1) := by decide +kernel
theorem dX7_back_0 : decode cX7_back 0 = .ok (.aload_n 0, 1) := by decide +kernel
theorem dX7_back_1 : decode cX7_back 1 = .ok (.getfield 47, 3) := by decide +kernel
theorem dX7_back_4 : decode cX7_back 4 = .ok (.ifCond .ne 10, 3) := by decide +kernel
theorem dX7_back_7 : decode cX7_back 7 = .ok (.aload_n 0, 1) := by decide +kernel
theorem dX7_back_8 : decode cX7_back 8 = .ok (.bipush (-3), 2) := by decide +kernel
theorem dX7_back_10 : decode cX7_back 10 = .ok (.invokevirtual 51, 3) := by decide +kernel
theorem dX7_back_13 : decode cX7_back 13 = .ok (.ireturn, 1) := by decide +kernel
theorem dX7_back_14 : decode cX7_back 14 = .ok (.aload_n 0, 1) := by decide +kernel
theorem dX7_back_15 : decode cX7_back 15 = .ok (.dup, 1) := by decide +kernel
theorem dX7_back_16 : decode cX7_back 16 = .ok (.getfield 47, 3) := by decide +kernel
theorem dX7_back_19 : decode cX7_back 19 = .ok (.iconst 1, 1) := by decide +kernel
theorem dX7_back_20 : decode cX7_back 20 = .ok (.isub, 1) := by decide +kernel
theorem dX7_back_21 : decode cX7_back 21 = .ok (.putfield 47, 3) := by decide +kernel
theorem dX7_back_24 : decode cX7_back 24 = .ok (.iconst 0, 1) := by decide +kernel
theorem dX7_back_25 : decode cX7_back 25 = .ok (.istore_n 1, 1) := by decide +kernel
theorem dX7_back_26 : decode cX7_back 26 = .ok (.iload_n 1, 1) := by decide +kernel
theorem dX7_back_27 : decode cX7_back 27 = .ok (.bipush 15, 2) := by decide +kernel
theorem dX7_back_29 : decode cX7_back 29 = .ok (.if_icmp .ge 29, 3) := by decide +kernel
theorem dX7_back_32 : decode cX7_back 32 = .ok (.aload_n 0, 1) := by decide +kernel
theorem dX7_back_33 : decode cX7_back 33 = .ok (.getfield 7, 3) := by decide +kernel
theorem dX7_back_36 : decode cX7_back 36 = .ok (.iload_n 1, 1) := by decide +kernel
theorem dX7_back_37 : decode cX7_back 37 = .ok (.aload_n 0, 1) := by decide +kernel
theorem dX7_back_38 : decode cX7_back 38 = .ok (.getfield 16, 3) := by decide +kernel
theorem dX7_back_41 : decode cX7_back 41 = .ok (.bipush 15, 2) := by decide +kernel
theorem dX7_back_43 : decode cX7_back 43 = .ok (.aload_n 0, 1) := by decide +kernel
theorem dX7_back_44 : decode cX7_back 44 = .ok (.getfield 47, 3) := by decide +kernel
theorem dX7_back_47 : decode cX7_back 47 = .ok (.imul, 1) := by decide +kernel
theorem dX7_back_48 : decode cX7_back 48 = .ok (.iload_n 1, 1) := by decide +kernel
theorem dX7_back_49 : decode cX7_back 49 = .ok (.iadd, 1) := by decide +kernel
theorem dX7_back_50 : decode cX7_back 50 = .ok (.iaload, 1) := by decide +kernel
theorem dX7_back_51 : decode cX7_back 51 = .ok (.iastore, 1) := by decide +kernel
theorem dX7_back_52 : decode cX7_back 52 = .ok (.iinc 1 1, 3) := by decide +kernel
theorem dX7_back_55 : decode cX7_back 55 = .ok (.goto (-29), 3) := by decide +kernel
theorem dX7_back_58 : decode cX7_back 58 = .ok (.aload_n 0, 1) := by decide +kernel
theorem dX7_back_59 : decode cX7_back 59 = .ok (.getfield 47, 3) := by decide +kernel
theorem dX7_back_62 : decode cX7_back 62 = .ok (.ireturn, 1) := by decide +kernel
theorem dX7_line_0 : decode cX7_line 0 = .ok (.iload_n 1, 1) := by decide +kernel
theorem dX7_line_1 : decode cX7_line 1 = .ok (.iconst 0, 1) := by decide +kernel
theorem dX7_line_2 : decode cX7_line 2 = .ok (.iconst 3, 1) := by decide +kernel
theorem dX7_line_3 : decode cX7_line 3 = .ok (.invokestatic 43, 3) := by decide +kernel
theorem dX7_line_6 : decode cX7_line 6 = .ok (.ifCond .eq 17, 3) := by decide +kernel
theorem dX7_line_9 : decode cX7_line 9 = .ok (.iload_n 2, 1) := by decide +kernel
theorem dX7_line_10 : decode cX7_line 10 = .ok (.invokestatic 55, 3) := by decide +kernel
theorem dX7_line_13 : decode cX7_line 13 = .ok (.ifCond .eq 10, 3) := by decide +kernel
theorem dX7_line_16 : decode cX7_line 16 = .ok (.iload_n 3, 1) := by decide +kernel
theorem dX7_line_17 : decode cX7_line 17 = .ok (.invokestatic 55, 3) := by decide +kernel
theorem dX7_line_20 : decode cX7_line 20 = .ok (.ifCond .ne 10, 3) := by decide +kernel
theorem dX7_line_23 : decode cX7_line 23 = .ok (.aload_n 0, 1) := by decide +kernel
theorem dX7_line_24 : decode cX7_line 24 = .ok (.bipush (-2), 2) := by decide +kernel
theorem dX7_line_26 : decode cX7_line 26 = .ok (.invokevirtual 51, 3) := by decide +kernel
theorem dX7_line_29 : decode cX7_line 29 = .ok (.ireturn, 1) := by decide +kernel
theorem dX7_line_30 : decode cX7_line 30 = .ok (.aload_n 0, 1) := by decide +kernel
theorem dX7_line_31 : decode cX7_line 31 = .ok (.getfield 7, 3) := by decide +kernel
theorem dX7_line_34 : decode cX7_line 34 = .ok (.iconst 0, 1) := by decide +kernel
theorem dX7_line_35 : decode cX7_line 35 = .ok (.iaload, 1) := by decide +kernel
theorem dX7_line_36 : decode cX7_line 36 = .ok (.bipush 14, 2) := by decide +kernel
theorem dX7_line_38 : decode cX7_line 38 = .ok (.if_icmp .ne 10, 3) := by decide +kernel
theorem dX7_line_41 : decode cX7_line 41 = .ok (.aload_n 0, 1) := by decide +kernel
theorem dX7_line_42 : decode cX7_line 42 = .ok (.bipush (-4), 2) := by decide +kernel
theorem dX7_line_44 : decode cX7_line 44 = .ok (.invokevirtual 51, 3) := by decide +kernel
theorem dX7_line_47 : decode cX7_line 47 = .ok (.ireturn, 1) := by decide +kernel
theorem dX7_line_48 : decode cX7_line 48 = .ok (.aload_n 0, 1) := by decide +kernel
theorem dX7_line_49 : decode cX7_line 49 = .ok (.invokevirtual 59, 3) := by decide +kernel
theorem dX7_line_52 : decode cX7_line 52 = .ok (.aload_n 0, 1) := by decide +kernel
theorem dX7_line_53 : decode cX7_line 53 = .ok (.getfield 7, 3) := by decide +kernel
theorem dX7_line_56 : decode cX7_line 56 = .ok (.iconst 0, 1) := by decide +kernel
theorem dX7_line_57 : decode cX7_line 57 = .ok (.dup2, 1) := by decide +kernel
theorem dX7_line_58 : decode cX7_line 58 = .ok (.iaload, 1) := by decide +kernel
theorem dX7_line_59 : decode cX7_line 59 = .ok (.iconst 1, 1) := by decide +kernel
theorem dX7_line_60 : decode cX7_line 60 = .ok (.iadd, 1) := by decide +kernel
theorem dX7_line_61 : decode cX7_line 61 = .ok (.iastore, 1) := by decide +kernel
theorem dX7_line_62 : decode cX7_line 62 = .ok (.aload_n 0, 1) := by decide +kernel
theorem dX7_line_63 : decode cX7_line 63 = .ok (.getfield 7, 3) := by decide +kernel
theorem dX7_line_66 : decode cX7_line 66 = .ok (.aload_n 0, 1) := by decide +kernel
theorem dX7_line_67 : decode cX7_line 67 = .ok (.getfield 7, 3) := by decide +kernel
theorem dX7_line_70 : decode cX7_line 70 = .ok (.iconst 0, 1) := by decide +kernel
theorem dX7_line_71 : decode cX7_line 71 = .ok (.iaload, 1) := by decide +kernel
theorem dX7_line_72 : decode cX7_line 72 = .ok (.bipush 100, 2) := by decide +kernel
theorem dX7_line_74 : decode cX7_line 74 = .ok (.iload_n 1, 1) := by decide +kernel
theorem dX7_line_75 : decode cX7_line 75 = .ok (.imul, 1) := by decide +kernel
theorem dX7_line_76 : decode cX7_line 76 = .ok (.bipush 10, 2) := by decide +kernel
theorem dX7_line_78 : decode cX7_line 78 = .ok (.iload_n 2, 1) := by decide +kernel
theorem dX7_line_79 : decode cX7_line 79 = .ok (.imul, 1) := by decide +kernel
theorem dX7_line_80 : decode cX7_line 80 = .ok (.iadd, 1) := by decide +kernel
theorem dX7_line_81 : decode cX7_line 81 = .ok (.iload_n 3, 1) := by decide +kernel
theorem dX7_line_82 : decode cX7_line 82 = .ok (.iadd, 1) := by decide +kernel
theorem dX7_line_83 : decode cX7_line 83 = .ok (.iastore, 1) := by decide +kernel
theorem dX7_line_84 : decode cX7_line 84 = .ok (.aload_n 0, 1) := by decide +kernel
theorem dX7_line_85 : decode cX7_line 85 = .ok (.getfield 7, 3) := by decide +kernel
theorem dX7_line_88 : decode cX7_line 88 = .ok (.iconst 0, 1) := by decide +kernel
theorem dX7_line_89 : decode cX7_line 89 = .ok (.iaload, 1) := by decide +kernel
theorem dX7_line_90 : decode cX7_line 90 = .ok (.iconst 1, 1) := by decide +kernel
theorem dX7_line_91 : decode cX7_line 91 = .ok (.isub, 1) := by decide +kernel
theorem dX7_line_92 : decode cX7_line 92 = .ok (.ireturn, 1) := by decide +kernel
theorem dX7_drops_0 : decode cX7_drops 0 = .ok (.aload_n 0, 1) := by decide +kernel
theorem dX7_drops_1 : decode cX7_drops 1 = .ok (.iload_n 1, 1) := by decide +kernel
theorem dX7_drops_2 : decode cX7_drops 2 = .ok (.invokevirtual 62, 3) := by decide +kernel
theorem dX7_drops_5 : decode cX7_drops 5 = .ok (.ifCond .ne 10, 3) := by decide +kernel
theorem dX7_drops_8 : decode cX7_drops 8 = .ok (.aload_n 0, 1) := by decide +kernel
theorem dX7_drops_9 : decode cX7_drops 9 = .ok (.bipush (-2), 2) := by decide +kernel
theorem dX7_drops_11 : decode cX7_drops 11 = .ok (.invokevirtual 51, 3) := by decide +kernel
theorem dX7_drops_14 : decode cX7_drops 14 = .ok (.ireturn, 1) := by decide +kernel
theorem dX7_drops_15 : decode cX7_drops 15 = .ok (.aload_n 0, 1) := by decide +kernel
theorem dX7_drops_16 : decode cX7_drops 16 = .ok (.invokevirtual 59, 3) := by decide +kernel
theorem dX7_drops_19 : decode cX7_drops 19 = .ok (.iload_n 1, 1) := by decide +kernel
theorem dX7_drops_20 : decode cX7_drops 20 = .ok (.iconst 1, 1) := by decide +kernel
theorem dX7_drops_21 : decode cX7_drops 21 = .ok (.iadd, 1) := by decide +kernel
theorem dX7_drops_22 : decode cX7_drops 22 = .ok (.istore_n 2, 1) := by decide +kernel
theorem dX7_drops_23 : decode cX7_drops 23 = .ok (.iload_n 2, 1) := by decide +kernel
theorem dX7_drops_24 : decode cX7_drops 24 = .ok (.aload_n 0, 1) := by decide +kernel
theorem dX7_drops_25 : decode cX7_drops 25 = .ok (.getfield 7, 3) := by decide +kernel
