theorem dX4_pass_0 : decode cX4_pass 0 = .ok (.iload_n 1, 1) := by decide +kernel
theorem dX4_pass_1 : decode cX4_pass 1 = .ok (.iconst 1, 1) := by decide +kernel
theorem dX4_pass_2 : decode cX4_pass 2 = .ok (.bipush 30, 2) := by decide +kernel
theorem dX4_pass_4 : decode cX4_pass 4 = .ok (.invokestatic 44, 3) := by decide +kernel
theorem dX4_pass_7 : decode cX4_pass 7 = .ok (.ifCond .ne 6, 3) := by decide +kernel
theorem dX4_pass_10 : decode cX4_pass 10 = .ok (.bipush (-2), 2) := by decide +kernel
theorem dX4_pass_12 : decode cX4_pass 12 = .ok (.ireturn, 1) := by decide +kernel
theorem dX4_pass_13 : decode cX4_pass 13 = .ok (.aload_n 0, 1) := by decide +kernel
theorem dX4_pass_14 : decode cX4_pass 14 = .ok (.invokevirtual 78, 3) := by decide +kernel
theorem dX4_pass_17 : decode cX4_pass 17 = .ok (.iload_n 1, 1) := by decide +kernel
theorem dX4_pass_18 : decode cX4_pass 18 = .ok (.aload_n 0, 1) := by decide +kernel
theorem dX4_pass_19 : decode cX4_pass 19 = .ok (.getfield 7, 3) := by decide +kernel
theorem dX4_pass_22 : decode cX4_pass 22 = .ok (.iconst 2, 1) := by decide +kernel
theorem dX4_pass_23 : decode cX4_pass 23 = .ok (.iaload, 1) := by decide +kernel
theorem dX4_pass_24 : decode cX4_pass 24 = .ok (.imul, 1) := by decide +kernel
theorem dX4_pass_25 : decode cX4_pass 25 = .ok (.istore_n 2, 1) := by decide +kernel
theorem dX4_pass_26 : decode cX4_pass 26 = .ok (.iconst 0, 1) := by decide +kernel
theorem dX4_pass_27 : decode cX4_pass 27 = .ok (.istore_n 3, 1) := by decide +kernel
theorem dX4_pass_28 : decode cX4_pass 28 = .ok (.iload_n 3, 1) := by decide +kernel
theorem dX4_pass_29 : decode cX4_pass 29 = .ok (.aload_n 0, 1) := by decide +kernel
theorem dX4_pass_30 : decode cX4_pass 30 = .ok (.getfield 7, 3) := by decide +kernel
theorem dX4_pass_33 : decode cX4_pass 33 = .ok (.iconst 4, 1) := by decide +kernel
theorem dX4_pass_34 : decode cX4_pass 34 = .ok (.iaload, 1) := by decide +kernel
theorem dX4_pass_35 : decode cX4_pass 35 = .ok (.if_icmp .ge 50, 3) := by decide +kernel
theorem dX4_pass_38 : decode cX4_pass 38 = .ok (.aload_n 0, 1) := by decide +kernel
theorem dX4_pass_39 : decode cX4_pass 39 = .ok (.getfield 7, 3) := by decide +kernel
theorem dX4_pass_42 : decode cX4_pass 42 = .ok (.sipush 195, 3) := by decide +kernel
theorem dX4_pass_45 : decode cX4_pass 45 = .ok (.iload_n 3, 1) := by decide +kernel
theorem dX4_pass_46 : decode cX4_pass 46 = .ok (.iadd, 1) := by decide +kernel
theorem dX4_pass_47 : decode cX4_pass 47 = .ok (.dup2, 1) := by decide +kernel
theorem dX4_pass_48 : decode cX4_pass 48 = .ok (.iaload, 1) := by decide +kernel
theorem dX4_pass_49 : decode cX4_pass 49 = .ok (.iload_n 2, 1) := by decide +kernel
theorem dX4_pass_50 : decode cX4_pass 50 = .ok (.aload_n 0, 1) := by decide +kernel
theorem dX4_pass_51 : decode cX4_pass 51 = .ok (.getfield 7, 3) := by decide +kernel
theorem dX4_pass_54 : decode cX4_pass 54 = .ok (.sipush 195, 3) := by decide +kernel
theorem dX4_pass_57 : decode cX4_pass 57 = .ok (.iload_n 3, 1) := by decide +kernel
theorem dX4_pass_58 : decode cX4_pass 58 = .ok (.iadd, 1) := by decide +kernel
theorem dX4_pass_59 : decode cX4_pass 59 = .ok (.iaload, 1) := by decide +kernel
theorem dX4_pass_60 : decode cX4_pass 60 = .ok (.if_icmp .ge 7, 3) := by decide +kernel
theorem dX4_pass_63 : decode cX4_pass 63 = .ok (.iload_n 2, 1) := by decide +kernel
theorem dX4_pass_64 : decode cX4_pass 64 = .ok (.goto 13, 3) := by decide +kernel
theorem dX4_pass_67 : decode cX4_pass 67 = .ok (.aload_n 0, 1) := by decide +kernel
theorem dX4_pass_68 : decode cX4_pass 68 = .ok (.getfield 7, 3) := by decide +kernel
theorem dX4_pass_71 : decode cX4_pass 71 = .ok (.sipush 195, 3) := by decide +kernel
theorem dX4_pass_74 : decode cX4_pass 74 = .ok (.iload_n 3, 1) := by decide +kernel
theorem dX4_pass_75 : decode cX4_pass 75 = .ok (.iadd, 1) := by decide +kernel
theorem dX4_pass_76 : decode cX4_pass 76 = .ok (.iaload, 1) := by decide +kernel
theorem dX4_pass_77 : decode cX4_pass 77 = .ok (.isub, 1) := by decide +kernel
theorem dX4_pass_78 : decode cX4_pass 78 = .ok (.iastore, 1) := by decide +kernel
theorem dX4_pass_79 : decode cX4_pass 79 = .ok (.iinc 3 1, 3) := by decide +kernel
theorem dX4_pass_82 : decode cX4_pass 82 = .ok (.goto (-54), 3) := by decide +kernel
theorem dX4_pass_85 : decode cX4_pass 85 = .ok (.aload_n 0, 1) := by decide +kernel
theorem dX4_pass_86 : decode cX4_pass 86 = .ok (.invokevirtual 98, 3) := by decide +kernel
theorem dX4_pass_89 : decode cX4_pass 89 = .ok (.ireturn, 1) := by decide +kernel
theorem dX4_burn_0 : decode cX4_burn 0 = .ok (.aload_n 0, 1) := by decide +kernel
theorem dX4_burn_1 : decode cX4_burn 1 = .ok (.iload_n 1, 1) := by decide +kernel
theorem dX4_burn_2 : decode cX4_burn 2 = .ok (.invokevirtual 48, 3) := by decide +kernel
theorem dX4_burn_5 : decode cX4_burn 5 = .ok (.ifCond .ne 5, 3) := by decide +kernel
theorem dX4_burn_8 : decode cX4_burn 8 = .ok (.iconst (-1), 1) := by decide +kernel
theorem dX4_burn_9 : decode cX4_burn 9 = .ok (.ireturn, 1) := by decide +kernel
theorem dX4_burn_10 : decode cX4_burn 10 = .ok (.aload_n 0, 1) := by decide +kernel
theorem dX4_burn_11 : decode cX4_burn 11 = .ok (.invokevirtual 78, 3) := by decide +kernel
theorem dX4_burn_14 : decode cX4_burn 14 = .ok (.aload_n 0, 1) := by decide +kernel
theorem dX4_burn_15 : decode cX4_burn 15 = .ok (.getfield 7, 3) := by decide +kernel
theorem dX4_burn_18 : decode cX4_burn 18 = .ok (.bipush 9, 2) := by decide +kernel
theorem dX4_burn_20 : decode cX4_burn 20 = .ok (.iload_n 1, 1) := by decide +kernel
theorem dX4_burn_21 : decode cX4_burn 21 = .ok (.iadd, 1) := by decide +kernel
theorem dX4_burn_22 : decode cX4_burn 22 = .ok (.iaload, 1) := by decide +kernel
theorem dX4_burn_23 : decode cX4_burn 23 = .ok (.istore_n 2, 1) := by decide +kernel
theorem dX4_burn_24 : decode cX4_burn 24 = .ok (.aload_n 0, 1) := by decide +kernel
theorem dX4_burn_25 : decode cX4_burn 25 = .ok (.aload_n 0, 1) := by decide +kernel
theorem dX4_burn_26 : decode cX4_burn 26 = .ok (.iload_n 1, 1) := by decide +kernel
theorem dX4_burn_27 : decode cX4_burn 27 = .ok (.invokevirtual 60, 3) := by decide +kernel
theorem dX4_burn_30 : decode cX4_burn 30 = .ok (.iload_n 2, 1) := by decide +kernel
theorem dX4_burn_31 : decode cX4_burn 31 = .ok (.invokevirtual 92, 3) := by decide +kernel
theorem dX4_burn_34 : decode cX4_burn 34 = .ok (.aload_n 0, 1) := by decide +kernel
theorem dX4_burn_35 : decode cX4_burn 35 = .ok (.iload_n 1, 1) := by decide +kernel
theorem dX4_burn_36 : decode cX4_burn 36 = .ok (.invokevirtual 95, 3) := by decide +kernel
theorem dX4_burn_39 : decode cX4_burn 39 = .ok (.iload_n 2, 1) := by decide +kernel
theorem dX4_burn_40 : decode cX4_burn 40 = .ok (.ireturn, 1) := by decide +kernel
theorem dX4_word_0 : decode cX4_word 0 = .ok (.aload_n 0, 1) := by decide +kernel
theorem dX4_word_1 : decode cX4_word 1 = .ok (.iload_n 1, 1) := by decide +kernel
theorem dX4_word_2 : decode cX4_word 2 = .ok (.iload_n 2, 1) := by decide +kernel
theorem dX4_word_3 : decode cX4_word 3 = .ok (.invokevirtual 81, 3) := by decide +kernel
theorem dX4_word_6 : decode cX4_word 6 = .ok (.ifCond .ne 5, 3) := by decide +kernel
theorem dX4_word_9 : decode cX4_word 9 = .ok (.iconst (-1), 1) := by decide +kernel
theorem dX4_word_10 : decode cX4_word 10 = .ok (.ireturn, 1) := by decide +kernel
theorem dX4_word_11 : decode cX4_word 11 = .ok (.aload_n 0, 1) := by decide +kernel
theorem dX4_word_12 : decode cX4_word 12 = .ok (.iload_n 1, 1) := by decide +kernel
theorem dX4_word_13 : decode cX4_word 13 = .ok (.invokevirtual 60, 3) := by decide +kernel
theorem dX4_word_16 : decode cX4_word 16 = .ok (.iload_n 2, 1) := by decide +kernel
theorem dX4_word_17 : decode cX4_word 17 = .ok (.iadd, 1) := by decide +kernel
theorem dX4_word_18 : decode cX4_word 18 = .ok (.istore 4, 2) := by decide +kernel
theorem dX4_word_20 : decode cX4_word 20 = .ok (.iload_n 3, 1) := by decide +kernel
theorem dX4_word_21 : decode cX4_word 21 = .ok (.ifCond .ne 16, 3) := by decide +kernel
theorem dX4_word_24 : decode cX4_word 24 = .ok (.aload_n 0, 1) := by decide +kernel
theorem dX4_word_25 : decode cX4_word 25 = .ok (.getfield 7, 3) := by decide +kernel
theorem dX4_word_28 : decode cX4_word 28 = .ok (.bipush 45, 2) := by decide +kernel
theorem dX4_word_30 : decode cX4_word 30 = .ok (.iload 4, 2) := by decide +kernel
theorem dX4_word_32 : decode cX4_word 32 = .ok (.iadd, 1) := by decide +kernel
theorem dX4_word_33 : decode cX4_word 33 = .ok (.iaload, 1) := by decide +kernel
theorem dX4_word_34 : decode cX4_word 34 = .ok (.goto 47, 3) := by decide +kernel
theorem dX4_word_37 : decode cX4_word 37 = .ok (.iload_n 3, 1) := by decide +kernel
theorem dX4_word_38 : decode cX4_word 38 = .ok (.iconst 1, 1) := by decide +kernel
theorem dX4_word_39 : decode cX4_word 39 = .ok (.if_icmp .ne 17, 3) := by decide +kernel
theorem dX4_word_42 : decode cX4_word 42 = .ok (.aload_n 0, 1) := by decide +kernel
theorem dX4_word_43 : decode cX4_word 43 = .ok (.getfield 7, 3) := by decide +kernel
theorem dX4_word_46 : decode cX4_word 46 = .ok (.sipush 195, 3) := by decide +kernel
theorem dX4_word_49 : decode cX4_word 49 = .ok (.iload 4, 2) := by decide +kernel
theorem dX4_word_51 : decode cX4_word 51 = .ok (.iadd, 1) := by decide +kernel
theorem dX4_word_52 : decode cX4_word 52 = .ok (.iaload, 1) := by decide +kernel
theorem dX4_word_53 : decode cX4_word 53 = .ok (.goto 28, 3) := by decide +kernel
theorem dX4_word_56 : decode cX4_word 56 = .ok (.iload_n 3, 1) := by decide +kernel
theorem dX4_word_57 : decode cX4_word 57 = .ok (.iconst 2, 1) := by decide +kernel
theorem dX4_word_58 : decode cX4_word 58 = .ok (.if_icmp .ne 21, 3) := by decide +kernel
theorem dX4_word_61 : decode cX4_word 61 = .ok (.aload_n 0, 1) := by decide +kernel
theorem dX4_word_62 : decode cX4_word 62 = .ok (.iload_n 1, 1) := by decide +kernel
theorem dX4_word_63 : decode cX4_word 63 = .ok (.aload_n 0, 1) := by decide +kernel
theorem dX4_word_64 : decode cX4_word 64 = .ok (.getfield 7, 3) := by decide +kernel
theorem dX4_word_67 : decode cX4_word 67 = .ok (.bipush 45, 2) := by decide +kernel
theorem dX4_word_69 : decode cX4_word 69 = .ok (.iload 4, 2) := by decide +kernel
theorem dX4_word_71 : decode cX4_word 71 = .ok (.iadd, 1) := by decide +kernel
theorem dX4_word_72 : decode cX4_word 72 = .ok (.iaload, 1) := by decide +kernel
theorem dX4_word_73 : decode cX4_word 73 = .ok (.invokevirtual 74, 3) := by decide +kernel
theorem dX4_word_76 : decode cX4_word 76 = .ok (.goto 5, 3) := by decide +kernel
theorem dX4_word_79 : decode cX4_word 79 = .ok (.bipush (-2), 2) := by decide +kernel
theorem dX4_word_81 : decode cX4_word 81 = .ok (.ireturn, 1) := by decide +kernel
theorem dX4_hottest_0 : decode cX4_hottest 0 = .ok (.iconst 0, 1) := by decide +kernel
theorem dX4_hottest_1 : decode cX4_hottest 1 = .ok (.istore_n 2, 1) := by decide +kernel
theorem dX4_hottest_2 : decode cX4_hottest 2 = .ok (.iconst 1, 1) := by decide +kernel
theorem dX4_hottest_3 : decode cX4_hottest 3 = .ok (.istore_n 3, 1) := by decide +kernel
theorem dX4_hottest_4 : decode cX4_hottest 4 = .ok (.iload_n 3, 1) := by decide +kernel
theorem dX4_hottest_5 : decode cX4_hottest 5 = .ok (.aload_n 0, 1) := by decide +kernel
theorem dX4_hottest_6 : decode cX4_hottest 6 = .ok (.getfield 7, 3) := by decide +kernel
theorem dX4_hottest_9 : decode cX4_hottest 9 = .ok (.bipush 9, 2) := by decide +kernel
theorem dX4_hottest_11 : decode cX4_hottest 11 = .ok (.iload_n 1, 1) := by decide +kernel
theorem dX4_hottest_12 : decode cX4_hottest 12 = .ok (.iadd, 1) := by decide +kernel
theorem dX4_hottest_13 : decode cX4_hottest 13 = .ok (.iaload, 1) := by decide +kernel
theorem dX4_hottest_14 : decode cX4_hottest 14 = .ok (.if_icmp .ge 50, 3) := by decide +kernel
theorem dX4_hottest_17 : decode cX4_hottest 17 = .ok (.aload_n 0, 1) := by decide +kernel
theorem dX4_hottest_18 : decode cX4_hottest 18 = .ok (.getfield 7, 3) := by decide +kernel
theorem dX4_hottest_21 : decode cX4_hottest 21 = .ok (.sipush 195, 3) := by decide +kernel
theorem dX4_hottest_24 : decode cX4_hottest 24 = .ok (.aload_n 0, 1) := by decide +kernel
theorem dX4_hottest_25 : decode cX4_hottest 25 = .ok (.iload_n 1, 1) := by decide +kernel
theorem dX4_hottest_26 : decode cX4_hottest 26 = .ok (.invokevirtual 60, 3) := by decide +kernel
theorem dX4_hottest_29 : decode cX4_hottest 29 = .ok (.iadd, 1) := by decide +kernel
theorem dX4_hottest_30 : decode cX4_hottest 30 = .ok (.iload_n 3, 1) := by decide +kernel
theorem dX4_hottest_31 : decode cX4_hottest 31 = .ok (.iadd, 1) := by decide +kernel
theorem dX4_hottest_32 : decode cX4_hottest 32 = .ok (.iaload, 1) := by decide +kernel
theorem dX4_hottest_33 : decode cX4_hottest 33 = .ok (.aload_n 0, 1) := by decide +kernel
theorem dX4_hottest_34 : decode cX4_hottest 34 = .ok (.getfield 7, 3) := by decide +kernel
theorem dX4_hottest_37 : decode cX4_hottest 37 = .ok (.sipush 195, 3) := by decide +kernel
theorem dX4_hottest_40 : decode cX4_hottest 40 = .ok (.aload_n 0, 1) := by decide +kernel
theorem dX4_hottest_41 : decode cX4_hottest 41 = .ok (.iload_n 1, 1) := by decide +kernel
theorem dX4_hottest_42 : decode cX4_hottest 42 = .ok (.invokevirtual 60, 3) := by decide +kernel
theorem dX4_hottest_45 : decode cX4_hottest 45 = .ok (.iadd, 1) := by decide +kernel
theorem dX4_hottest_46 : decode cX4_hottest 46 = .ok (.iload_n 2, 1) := by decide +kernel
theorem dX4_hottest_47 : decode cX4_hottest 47 = .ok (.iadd, 1) := by decide +kernel
theorem dX4_hottest_48 : decode cX4_hottest 48 = .ok (.iaload, 1) := by decide +kernel
theorem dX4_hottest_49 : decode cX4_hottest 49 = .ok (.if_icmp .le 7, 3) := by decide +kernel
theorem dX4_hottest_52 : decode cX4_hottest 52 = .ok (.iload_n 3, 1) := by decide +kernel
theorem dX4_hottest_53 : decode cX4_hottest 53 = .ok (.goto 4, 3) := by decide +kernel
theorem dX4_hottest_56 : decode cX4_hottest 56 = .ok (.iload_n 2, 1) := by decide +kernel
theorem dX4_hottest_57 : decode cX4_hottest 57 = .ok (.istore_n 2, 1) := by decide +kernel
theorem dX4_hottest_58 : decode cX4_hottest 58 = .ok (.iinc 3 1, 3) := by decide +kernel
theorem dX4_hottest_61 : decode cX4_hottest 61 = .ok (.goto (-57), 3) := by decide +kernel
theorem dX4_hottest_64 : decode cX4_hottest 64 = .ok (.iload_n 2, 1) := by decide +kernel
theorem dX4_hottest_65 : decode cX4_hottest 65 = .ok (.ireturn, 1) := by decide +kernel
theorem dX4_unlike_0 : decode cX4_unlike 0 = .ok (.iconst 0, 1) := by decide +kernel
theorem dX4_unlike_1 : decode cX4_unlike 1 = .ok (.istore_n 2, 1) := by decide +kernel
theorem dX4_unlike_2 : decode cX4_unlike 2 = .ok (.iconst 0, 1) := by decide +kernel
theorem dX4_unlike_3 : decode cX4_unlike 3 = .ok (.istore_n 3, 1) := by decide +kernel
theorem dX4_unlike_4 : decode cX4_unlike 4 = .ok (.iload_n 3, 1) := by decide +kernel
theorem dX4_unlike_5 : decode cX4_unlike 5 = .ok (.bipush 26, 2) := by decide +kernel
theorem dX4_unlike_7 : decode cX4_unlike 7 = .ok (.if_icmp .ge 26, 3) := by decide +kernel
theorem dX4_unlike_10 : decode cX4_unlike 10 = .ok (.iload_n 2, 1) := by decide +kernel
theorem dX4_unlike_11 : decode cX4_unlike 11 = .ok (.aload_n 0, 1) := by decide +kernel
theorem dX4_unlike_12 : decode cX4_unlike 12 = .ok (.iload_n 1, 1) := by decide +kernel
theorem dX4_unlike_13 : decode cX4_unlike 13 = .ok (.iload_n 3, 1) := by decide +kernel
theorem dX4_unlike_14 : decode cX4_unlike 14 = .ok (.invokevirtual 74, 3) := by decide +kernel
theorem dX4_unlike_17 : decode cX4_unlike 17 = .ok (.ifCond .le 7, 3) := by decide +kernel
theorem dX4_unlike_20 : decode cX4_unlike 20 = .ok (.iconst 1, 1) := by decide +kernel
theorem dX4_unlike_21 : decode cX4_unlike 21 = .ok (.goto 4, 3) := by decide +kernel
theorem dX4_unlike_24 : decode cX4_unlike 24 = .ok (.iconst 0, 1) := by decide +kernel
theorem dX4_unlike_25 : decode cX4_unlike 25 = .ok (.iadd, 1) := by decide +kernel
theorem dX4_unlike_26 : decode cX4_unlike 26 = .ok (.istore_n 2, 1) := by decide +kernel
theorem dX4_unlike_27 : decode cX4_unlike 27 = .ok (.iinc 3 1, 3) := by decide +kernel
theorem dX4_unlike_30 : decode cX4_unlike 30 = .ok (.goto (-26), 3) := by decide +kernel
theorem dX4_unlike_33 : decode cX4_unlike 33 = .ok (.iload_n 2, 1) := by decide +kernel
theorem dX4_unlike_34 : decode cX4_unlike 34 = .ok (.ireturn, 1) := by decide +kernel
theorem dX4_isSameBackwards_0 : decode cX4_isSameBackwards 0 = .ok (.aload_n 0, 1) := by decide +kernel
theorem dX4_isSameBackwards_1 : decode cX4_isSameBackwards 1 = .ok (.iload_n 1, 1) := by decide +kernel
theorem dX4_isSameBackwards_2 : decode cX4_isSameBackwards 2 = .ok (.invokevirtual 60, 3) := by decide +kernel
theorem dX4_isSameBackwards_5 : decode cX4_isSameBackwards 5 = .ok (.istore_n 2, 1) := by decide +kernel
theorem dX4_isSameBackwards_6 : decode cX4_isSameBackwards 6 = .ok (.iload_n 2, 1) := by decide +kernel
theorem dX4_isSameBackwards_7 : decode cX4_isSameBackwards 7 = .ok (.aload_n 0, 1) := by decide +kernel
theorem dX4_isSameBackwards_8 : decode cX4_isSameBackwards 8 = .ok (.getfield 7, 3) := by decide +kernel
theorem dX4_isSameBackwards_11 : decode cX4_isSameBackwards 11 = .ok (.bipush 9, 2) := by decide +kernel
theorem dX4_isSameBackwards_13 : decode cX4_isSameBackwards 13 = .ok (.iload_n 1, 1) := by decide +kernel
theorem dX4_isSameBackwards_14 : decode cX4_isSameBackwards 14 = .ok (.iadd, 1) := by decide +kernel
theorem dX4_isSameBackwards_15 : decode cX4_isSameBackwards 15 = .ok (.iaload, 1) := by decide +kernel
theorem dX4_isSameBackwards_16 : decode cX4_isSameBackwards 16 = .ok (.iadd, 1) := by decide +kernel
theorem dX4_isSameBackwards_17 : decode cX4_isSameBackwards 17 = .ok (.iconst 1, 1) := by decide +kernel
theorem dX4_isSameBackwards_18 : decode cX4_isSameBackwards 18 = .ok (.isub, 1) := by decide +kernel
theorem dX4_isSameBackwards_19 : decode cX4_isSameBackwards 19 = .ok (.istore_n 3, 1) := by decide +kernel
theorem dX4_isSameBackwards_20 : decode cX4_isSameBackwards 20 = .ok (.iconst 1, 1) := by decide +kernel
theorem dX4_isSameBackwards_21 : decode cX4_isSameBackwards 21 = .ok (.istore 4, 2) := by decide +kernel
theorem dX4_isSameBackwards_23 : decode cX4_isSameBackwards 23 = .ok (.iconst 0, 1) := by decide +kernel
theorem dX4_isSameBackwards_24 : decode cX4_isSameBackwards 24 = .ok (.istore 5, 2) := by decide +kernel
theorem dX4_isSameBackwards_26 : decode cX4_isSameBackwards 26 = .ok (.iload 5, 2) := by decide +kernel
theorem dX4_isSameBackwards_28 : decode cX4_isSameBackwards 28 = .ok (.aload_n 0, 1) := by decide +kernel
theorem dX4_isSameBackwards_29 : decode cX4_isSameBackwards 29 = .ok (.getfield 7, 3) := by decide +kernel
theorem dX4_isSameBackwards_32 : decode cX4_isSameBackwards 32 = .ok (.bipush 9, 2) := by decide +kernel
theorem dX4_isSameBackwards_34 : decode cX4_isSameBackwards 34 = .ok (.iload_n 1, 1) := by decide +kernel
theorem dX4_isSameBackwards_35 : decode cX4_isSameBackwards 35 = .ok (.iadd, 1) := by decide +kernel
theorem dX4_isSameBackwards_36 : decode cX4_isSameBackwards 36 = .ok (.iaload, 1) := by decide +kernel
theorem dX4_isSameBackwards_37 : decode cX4_isSameBackwards 37 = .ok (.if_icmp .ge 48, 3) := by decide +kernel
theorem dX4_isSameBackwards_40 : decode cX4_isSameBackwards 40 = .ok (.iload 4, 2) := by decide +kernel
theorem dX4_isSameBackwards_42 : decode cX4_isSameBackwards 42 = .ok (.ifCond .eq 34, 3) := by decide +kernel
theorem dX4_isSameBackwards_45 : decode cX4_isSameBackwards 45 = .ok (.aload_n 0, 1) := by decide +kernel
theorem dX4_isSameBackwards_46 : decode cX4_isSameBackwards 46 = .ok (.getfield 7, 3) := by decide +kernel
theorem dX4_isSameBackwards_49 : decode cX4_isSameBackwards 49 = .ok (.bipush 45, 2) := by decide +kernel
theorem dX4_isSameBackwards_51 : decode cX4_isSameBackwards 51 = .ok (.iload_n 2, 1) := by decide +kernel
theorem dX4_isSameBackwards_52 : decode cX4_isSameBackwards 52 = .ok (.iadd, 1) := by decide +kernel
theorem dX4_isSameBackwards_53 : decode cX4_isSameBackwards 53 = .ok (.iload 5, 2) := by decide +kernel
theorem dX4_isSameBackwards_55 : decode cX4_isSameBackwards 55 = .ok (.iadd, 1) := by decide +kernel
theorem dX4_isSameBackwards_56 : decode cX4_isSameBackwards 56 = .ok (.iaload, 1) := by decide +kernel
theorem dX4_isSameBackwards_57 : decode cX4_isSameBackwards 57 = .ok (.aload_n 0, 1) := by decide +kernel
theorem dX4_isSameBackwards_58 : decode cX4_isSameBackwards 58 = .ok (.getfield 7, 3) := by decide +kernel
theorem dX4_isSameBackwards_61 : decode cX4_isSameBackwards 61 = .ok (.bipush 45, 2) := by decide +kernel
theorem dX4_isSameBackwards_63 : decode cX4_isSameBackwards 63 = .ok (.iload_n 3, 1) := by decide +kernel
theorem dX4_isSameBackwards_64 : decode cX4_isSameBackwards 64 = .ok (.iadd, 1) := by decide +kernel
theorem dX4_isSameBackwards_65 : decode cX4_isSameBackwards 65 = .ok (.iload 5, 2) := by decide +kernel
theorem dX4_isSameBackwards_67 : decode cX4_isSameBackwards 67 = .ok (.isub, 1) := by decide +kernel
theorem dX4_isSameBackwards_68 : decode cX4_isSameBackwards 68 = .ok (.iaload, 1) := by decide +kernel
theorem dX4_isSameBackwards_69 : decode cX4_isSameBackwards 69 = .ok (.if_icmp .ne 7, 3) := by decide +kernel
theorem dX4_isSameBackwards_72 : decode cX4_isSameBackwards 72 = .ok (.iconst 1, 1) := by decide +kernel
theorem dX4_isSameBackwards_73 : decode cX4_isSameBackwards 73 = .ok (.goto 4, 3) := by decide +kernel
theorem dX4_isSameBackwards_76 : decode cX4_isSameBackwards 76 = .ok (.iconst 0, 1) := by decide +kernel
theorem dX4_isSameBackwards_77 : decode cX4_isSameBackwards 77 = .ok (.istore 4, 2) := by decide +kernel
theorem dX4_isSameBackwards_79 : decode cX4_isSameBackwards 79 = .ok (.iinc 5 1, 3) := by decide +kernel
theorem dX4_isSameBackwards_82 : decode cX4_isSameBackwards 82 = .ok (.goto (-56), 3) := by decide +kernel
theorem dX4_isSameBackwards_85 : decode cX4_isSameBackwards 85 = .ok (.iload 4, 2) := by decide +kernel
theorem dX4_isSameBackwards_87 : decode cX4_isSameBackwards 87 = .ok (.ifCond .eq 7, 3) := by decide +kernel
theorem dX4_isSameBackwards_90 : decode cX4_isSameBackwards 90 = .ok (.iconst 1, 1) := by decide +kernel
theorem dX4_isSameBackwards_91 : decode cX4_isSameBackwards 91 = .ok (.goto 4, 3) := by decide +kernel
theorem dX4_isSameBackwards_94 : decode cX4_isSameBackwards 94 = .ok (.iconst 0, 1) := by decide +kernel
theorem dX4_isSameBackwards_95 : decode cX4_isSameBackwards 95 = .ok (.ireturn, 1) := by decide +kernel
theorem dX4_story_0 : decode cX4_story 0 = .ok (.aload_n 0, 1) := by decide +kernel
theorem dX4_story_1 : decode cX4_story 1 = .ok (.iload_n 1, 1) := by decide +kernel
theorem dX4_story_2 : decode cX4_story 2 = .ok (.invokevirtual 48, 3) := by decide +kernel
theorem dX4_story_5 : decode cX4_story 5 = .ok (.ifCond .ne 5, 3) := by decide +kernel
theorem dX4_story_8 : decode cX4_story 8 = .ok (.iconst (-1), 1) := by decide +kernel
theorem dX4_story_9 : decode cX4_story 9 = .ok (.ireturn, 1) := by decide +kernel
theorem dX4_story_10 : decode cX4_story 10 = .ok (.iload_n 2, 1) := by decide +kernel
theorem dX4_story_11 : decode cX4_story 11 = .ok (.tableswitch 105 0 7 #[45, 55, 61, 67, 77, 87, 93, 99], 45) := by decide +kernel
theorem dX4_story_56 : decode cX4_story 56 = .ok (.aload_n 0, 1) := by decide +kernel
theorem dX4_story_57 : decode cX4_story 57 = .ok (.getfield 7, 3) := by decide +kernel
theorem dX4_story_60 : decode cX4_story 60 = .ok (.bipush 9, 2) := by decide +kernel
theorem dX4_story_62 : decode cX4_story 62 = .ok (.iload_n 1, 1) := by decide +kernel
theorem dX4_story_63 : decode cX4_story 63 = .ok (.iadd, 1) := by decide +kernel
theorem dX4_story_64 : decode cX4_story 64 = .ok (.iaload, 1) := by decide +kernel
theorem dX4_story_65 : decode cX4_story 65 = .ok (.ireturn, 1) := by decide +kernel
theorem dX4_story_66 : decode cX4_story 66 = .ok (.aload_n 0, 1) := by decide +kernel
theorem dX4_story_67 : decode cX4_story 67 = .ok (.iload_n 1, 1) := by decide +kernel
theorem dX4_story_68 : decode cX4_story 68 = .ok (.invokevirtual 101, 3) := by decide +kernel
theorem dX4_story_71 : decode cX4_story 71 = .ok (.ireturn, 1) := by decide +kernel
theorem dX4_story_72 : decode cX4_story 72 = .ok (.aload_n 0, 1) := by decide +kernel
theorem dX4_story_73 : decode cX4_story 73 = .ok (.iload_n 1, 1) := by decide +kernel
theorem dX4_story_74 : decode cX4_story 74 = .ok (.invokevirtual 89, 3) := by decide +kernel
theorem dX4_story_77 : decode cX4_story 77 = .ok (.ireturn, 1) := by decide +kernel
theorem dX4_story_78 : decode cX4_story 78 = .ok (.aload_n 0, 1) := by decide +kernel
theorem dX4_story_79 : decode cX4_story 79 = .ok (.getfield 7, 3) := by decide +kernel
theorem dX4_story_82 : decode cX4_story 82 = .ok (.bipush 21, 2) := by decide +kernel
theorem dX4_story_84 : decode cX4_story 84 = .ok (.iload_n 1, 1) := by decide +kernel
theorem dX4_story_85 : decode cX4_story 85 = .ok (.iadd, 1) := by decide +kernel
theorem dX4_story_86 : decode cX4_story 86 = .ok (.iaload, 1) := by decide +kernel
theorem dX4_story_87 : decode cX4_story 87 = .ok (.ireturn, 1) := by decide +kernel
theorem dX4_story_88 : decode cX4_story 88 = .ok (.aload_n 0, 1) := by decide +kernel
theorem dX4_story_89 : decode cX4_story 89 = .ok (.getfield 7, 3) := by decide +kernel
theorem dX4_story_92 : decode cX4_story 92 = .ok (.bipush 33, 2) := by decide +kernel
theorem dX4_story_94 : decode cX4_story 94 = .ok (.iload_n 1, 1) := by decide +kernel
theorem dX4_story_95 : decode cX4_story 95 = .ok (.iadd, 1) := by decide +kernel
theorem dX4_story_96 : decode cX4_story 96 = .ok (.iaload, 1) := by decide +kernel
theorem dX4_story_97 : decode cX4_story 97 = .ok (.ireturn, 1) := by decide +kernel
theorem dX4_story_98 : decode cX4_story 98 = .ok (.aload_n 0, 1) := by decide +kernel
theorem dX4_story_99 : decode cX4_story 99 = .ok (.iload_n 1, 1) := by decide +kernel
theorem dX4_story_100 : decode cX4_story 100 = .ok (.invokevirtual 104, 3) := by decide +kernel
theorem dX4_story_103 : decode cX4_story 103 = .ok (.ireturn, 1) := by decide +kernel
theorem dX4_story_104 : decode cX4_story 104 = .ok (.aload_n 0, 1) := by decide +kernel
theorem dX4_story_105 : decode cX4_story 105 = .ok (.iload_n 1, 1) := by decide +kernel
theorem dX4_story_106 : decode cX4_story 106 = .ok (.invokevirtual 107, 3) := by decide +kernel
theorem dX4_story_109 : decode cX4_story 109 = .ok (.ireturn, 1) := by decide +kernel
theorem dX4_story_110 : decode cX4_story 110 = .ok (.aload_n 0, 1) := by decide +kernel
theorem dX4_story_111 : decode cX4_story 111 = .ok (.iload_n 1, 1) := by decide +kernel
theorem dX4_story_112 : decode cX4_story 112 = .ok (.invokevirtual 110, 3) := by decide +kernel
theorem dX4_story_115 : decode cX4_story 115 = .ok (.ireturn, 1) := by decide +kernel
theorem dX4_story_116 : decode cX4_story 116 = .ok (.bipush (-2), 2) := by decide +kernel
theorem dX4_story_118 : decode cX4_story 118 = .ok (.ireturn, 1) := by decide +kernel
theorem dX4_families_0 : decode cX4_families 0 = .ok (.iconst 0, 1) := by decide +kernel
theorem dX4_families_1 : decode cX4_families 1 = .ok (.istore_n 1, 1) := by decide +kernel
theorem dX4_families_2 : decode cX4_families 2 = .ok (.iconst 0, 1) := by decide +kernel
theorem dX4_families_3 : decode cX4_families 3 = .ok (.istore_n 2, 1) := by decide +kernel
theorem dX4_families_4 : decode cX4_families 4 = .ok (.iload_n 2, 1) := by decide +kernel
theorem dX4_families_5 : decode cX4_families 5 = .ok (.aload_n 0, 1) := by decide +kernel
theorem dX4_families_6 : decode cX4_families 6 = .ok (.getfield 7, 3) := by decide +kernel
theorem dX4_families_9 : decode cX4_families 9 = .ok (.iconst 3, 1) := by decide +kernel
theorem dX4_families_10 : decode cX4_families 10 = .ok (.iaload, 1) := by decide +kernel
theorem dX4_families_11 : decode cX4_families 11 = .ok (.if_icmp .ge 70, 3) := by decide +kernel
theorem dX4_families_14 : decode cX4_families 14 = .ok (.iconst 1, 1) := by decide +kernel
theorem dX4_families_15 : decode cX4_families 15 = .ok (.istore_n 3, 1) := by decide +kernel
theorem dX4_families_16 : decode cX4_families 16 = .ok (.iconst 0, 1) := by decide +kernel
theorem dX4_families_17 : decode cX4_families 17 = .ok (.istore 4, 2) := by decide +kernel
theorem dX4_families_19 : decode cX4_families 19 = .ok (.iload 4, 2) := by decide +kernel
theorem dX4_families_21 : decode cX4_families 21 = .ok (.iload_n 2, 1) := by decide +kernel
theorem dX4_families_22 : decode cX4_families 22 = .ok (.if_icmp .ge 41, 3) := by decide +kernel
theorem dX4_families_25 : decode cX4_families 25 = .ok (.iload_n 3, 1) := by decide +kernel
theorem dX4_families_26 : decode cX4_families 26 = .ok (.ifCond .eq 29, 3) := by decide +kernel
theorem dX4_families_29 : decode cX4_families 29 = .ok (.aload_n 0, 1) := by decide +kernel
theorem dX4_families_30 : decode cX4_families 30 = .ok (.getfield 7, 3) := by decide +kernel
theorem dX4_families_33 : decode cX4_families 33 = .ok (.bipush 21, 2) := by decide +kernel
theorem dX4_families_35 : decode cX4_families 35 = .ok (.iload 4, 2) := by decide +kernel
theorem dX4_families_37 : decode cX4_families 37 = .ok (.iadd, 1) := by decide +kernel
theorem dX4_families_38 : decode cX4_families 38 = .ok (.iaload, 1) := by decide +kernel
theorem dX4_families_39 : decode cX4_families 39 = .ok (.aload_n 0, 1) := by decide +kernel
theorem dX4_families_40 : decode cX4_families 40 = .ok (.getfield 7, 3) := by decide +kernel
theorem dX4_families_43 : decode cX4_families 43 = .ok (.bipush 21, 2) := by decide +kernel
theorem dX4_families_45 : decode cX4_families 45 = .ok (.iload_n 2, 1) := by decide +kernel
theorem dX4_families_46 : decode cX4_families 46 = .ok (.iadd, 1) := by decide +kernel
theorem dX4_families_47 : decode cX4_families 47 = .ok (.iaload, 1) := by decide +kernel
theorem dX4_families_48 : decode cX4_families 48 = .ok (.if_icmp .eq 7, 3) := by decide +kernel
theorem dX4_families_51 : decode cX4_families 51 = .ok (.iconst 1, 1) := by decide +kernel
theorem dX4_families_52 : decode cX4_families 52 = .ok (.goto 4, 3) := by decide +kernel
theorem dX4_families_55 : decode cX4_families 55 = .ok (.iconst 0, 1) := by decide +kernel
theorem dX4_families_56 : decode cX4_families 56 = .ok (.istore_n 3, 1) := by decide +kernel
theorem dX4_families_57 : decode cX4_families 57 = .ok (.iinc 4 1, 3) := by decide +kernel
theorem dX4_families_60 : decode cX4_families 60 = .ok (.goto (-41), 3) := by decide +kernel
theorem dX4_families_63 : decode cX4_families 63 = .ok (.iload_n 1, 1) := by decide +kernel
theorem dX4_families_64 : decode cX4_families 64 = .ok (.iload_n 3, 1) := by decide +kernel
theorem dX4_families_65 : decode cX4_families 65 = .ok (.ifCond .eq 7, 3) := by decide +kernel
theorem dX4_families_68 : decode cX4_families 68 = .ok (.iconst 1, 1) := by decide +kernel
theorem dX4_families_69 : decode cX4_families 69 = .ok (.goto 4, 3) := by decide +kernel
theorem dX4_families_72 : decode cX4_families 72 = .ok (.iconst 0, 1) := by decide +kernel
theorem dX4_families_73 : decode cX4_families 73 = .ok (.iadd, 1) := by decide +kernel
theorem dX4_families_74 : decode cX4_families 74 = .ok (.istore_n 1, 1) := by decide +kernel
theorem dX4_families_75 : decode cX4_families 75 = .ok (.iinc 2 1, 3) := by decide +kernel
theorem dX4_families_78 : decode cX4_families 78 = .ok (.goto (-74), 3) := by decide +kernel
theorem dX4_families_81 : decode cX4_families 81 = .ok (.iload_n 1, 1) := by decide +kernel
theorem dX4_families_82 : decode cX4_families 82 = .ok (.ireturn, 1) := by decide +kernel
theorem dX4_greatest_0 : decode cX4_greatest 0 = .ok (.bipush (-6), 2) := by decide +kernel
theorem dX4_greatest_2 : decode cX4_greatest 2 = .ok (.istore_n 1, 1) := by decide +kernel
theorem dX4_greatest_3 : decode cX4_greatest 3 = .ok (.iconst 0, 1) := by decide +kernel
theorem dX4_greatest_4 : decode cX4_greatest 4 = .ok (.istore_n 2, 1) := by decide +kernel
theorem dX4_greatest_5 : decode cX4_greatest 5 = .ok (.iload_n 2, 1) := by decide +kernel
theorem dX4_greatest_6 : decode cX4_greatest 6 = .ok (.aload_n 0, 1) := by decide +kernel
theorem dX4_greatest_7 : decode cX4_greatest 7 = .ok (.getfield 7, 3) := by decide +kernel
theorem dX4_greatest_10 : decode cX4_greatest 10 = .ok (.iconst 3, 1) := by decide +kernel
theorem dX4_greatest_11 : decode cX4_greatest 11 = .ok (.iaload, 1) := by decide +kernel
theorem dX4_greatest_12 : decode cX4_greatest 12 = .ok (.if_icmp .ge 36, 3) := by decide +kernel
theorem dX4_greatest_15 : decode cX4_greatest 15 = .ok (.aload_n 0, 1) := by decide +kernel
theorem dX4_greatest_16 : decode cX4_greatest 16 = .ok (.getfield 7, 3) := by decide +kernel
theorem dX4_greatest_19 : decode cX4_greatest 19 = .ok (.bipush 33, 2) := by decide +kernel
theorem dX4_greatest_21 : decode cX4_greatest 21 = .ok (.iload_n 2, 1) := by decide +kernel
theorem dX4_greatest_22 : decode cX4_greatest 22 = .ok (.iadd, 1) := by decide +kernel
theorem dX4_greatest_23 : decode cX4_greatest 23 = .ok (.iaload, 1) := by decide +kernel
theorem dX4_greatest_24 : decode cX4_greatest 24 = .ok (.iload_n 1, 1) := by decide +kernel
theorem dX4_greatest_25 : decode cX4_greatest 25 = .ok (.if_icmp .le 15, 3) := by decide +kernel
theorem dX4_greatest_28 : decode cX4_greatest 28 = .ok (.aload_n 0, 1) := by decide +kernel
theorem dX4_greatest_29 : decode cX4_greatest 29 = .ok (.getfield 7, 3) := by decide +kernel
theorem dX4_greatest_32 : decode cX4_greatest 32 = .ok (.bipush 33, 2) := by decide +kernel
theorem dX4_greatest_34 : decode cX4_greatest 34 = .ok (.iload_n 2, 1) := by decide +kernel
theorem dX4_greatest_35 : decode cX4_greatest 35 = .ok (.iadd, 1) := by decide +kernel
theorem dX4_greatest_36 : decode cX4_greatest 36 = .ok (.iaload, 1) := by decide +kernel
theorem dX4_greatest_37 : decode cX4_greatest 37 = .ok (.goto 4, 3) := by decide +kernel
theorem dX4_greatest_40 : decode cX4_greatest 40 = .ok (.iload_n 1, 1) := by decide +kernel
theorem dX4_greatest_41 : decode cX4_greatest 41 = .ok (.istore_n 1, 1) := by decide +kernel
theorem dX4_greatest_42 : decode cX4_greatest 42 = .ok (.iinc 2 1, 3) := by decide +kernel
theorem dX4_greatest_45 : decode cX4_greatest 45 = .ok (.goto (-40), 3) := by decide +kernel
theorem dX4_greatest_48 : decode cX4_greatest 48 = .ok (.iload_n 1, 1) := by decide +kernel
theorem dX4_greatest_49 : decode cX4_greatest 49 = .ok (.ireturn, 1) := by decide +kernel
theorem dX4_count_0 : decode cX4_count 0 = .ok (.iload_n 1, 1) := by decide +kernel
theorem dX4_count_1 : decode cX4_count 1 = .ok (.tableswitch 130 0 12 #[67, 74, 81, 86, 91, 91, 91, 103, 108, 108, 108, 120, 125], 67) := by decide +kernel
theorem dX4_count_68 : decode cX4_count 68 = .ok (.aload_n 0, 1) := by decide +kernel
theorem dX4_count_69 : decode cX4_count 69 = .ok (.getfield 7, 3) := by decide +kernel
theorem dX4_count_72 : decode cX4_count 72 = .ok (.iconst 3, 1) := by decide +kernel
theorem dX4_count_73 : decode cX4_count 73 = .ok (.iaload, 1) := by decide +kernel
theorem dX4_count_74 : decode cX4_count 74 = .ok (.ireturn, 1) := by decide +kernel
theorem dX4_count_75 : decode cX4_count 75 = .ok (.aload_n 0, 1) := by decide +kernel
theorem dX4_count_76 : decode cX4_count 76 = .ok (.getfield 7, 3) := by decide +kernel
theorem dX4_count_79 : decode cX4_count 79 = .ok (.iconst 4, 1) := by decide +kernel
theorem dX4_count_80 : decode cX4_count 80 = .ok (.iaload, 1) := by decide +kernel
theorem dX4_count_81 : decode cX4_count 81 = .ok (.ireturn, 1) := by decide +kernel
theorem dX4_count_82 : decode cX4_count 82 = .ok (.aload_n 0, 1) := by decide +kernel
theorem dX4_count_83 : decode cX4_count 83 = .ok (.invokevirtual 98, 3) := by decide +kernel
theorem dX4_count_86 : decode cX4_count 86 = .ok (.ireturn, 1) := by decide +kernel
theorem dX4_count_87 : decode cX4_count 87 = .ok (.aload_n 0, 1) := by decide +kernel
theorem dX4_count_88 : decode cX4_count 88 = .ok (.invokevirtual 113, 3) := by decide +kernel
theorem dX4_count_91 : decode cX4_count 91 = .ok (.ireturn, 1) := by decide +kernel
theorem dX4_count_92 : decode cX4_count 92 = .ok (.aload_n 0, 1) := by decide +kernel
theorem dX4_count_93 : decode cX4_count 93 = .ok (.getfield 7, 3) := by decide +kernel
theorem dX4_count_96 : decode cX4_count 96 = .ok (.bipush 6, 2) := by decide +kernel
theorem dX4_count_98 : decode cX4_count 98 = .ok (.iload_n 1, 1) := by decide +kernel
theorem dX4_count_99 : decode cX4_count 99 = .ok (.iadd, 1) := by decide +kernel
theorem dX4_count_100 : decode cX4_count 100 = .ok (.iconst 4, 1) := by decide +kernel
theorem dX4_count_101 : decode cX4_count 101 = .ok (.isub, 1) := by decide +kernel
theorem dX4_count_102 : decode cX4_count 102 = .ok (.iaload, 1) := by decide +kernel
theorem dX4_count_103 : decode cX4_count 103 = .ok (.ireturn, 1) := by decide +kernel
theorem dX4_count_104 : decode cX4_count 104 = .ok (.aload_n 0, 1) := by decide +kernel
theorem dX4_count_105 : decode cX4_count 105 = .ok (.invokevirtual 116, 3) := by decide +kernel
theorem dX4_count_108 : decode cX4_count 108 = .ok (.ireturn, 1) := by decide +kernel
theorem dX4_count_109 : decode cX4_count 109 = .ok (.aload_n 0, 1) := by decide +kernel
theorem dX4_count_110 : decode cX4_count 110 = .ok (.getfield 7, 3) := by decide +kernel
theorem dX4_count_113 : decode cX4_count 113 = .ok (.iconst 0, 1) := by decide +kernel
theorem dX4_count_114 : decode cX4_count 114 = .ok (.iload_n 1, 1) := by decide +kernel
theorem dX4_count_115 : decode cX4_count 115 = .ok (.iadd, 1) := by decide +kernel
theorem dX4_count_116 : decode cX4_count 116 = .ok (.bipush 8, 2) := by decide +kernel
theorem dX4_count_118 : decode cX4_count 118 = .ok (.isub, 1) := by decide +kernel
theorem dX4_count_119 : decode cX4_count 119 = .ok (.iaload, 1) := by decide +kernel
theorem dX4_count_120 : decode cX4_count 120 = .ok (.ireturn, 1) := by decide +kernel
theorem dX4_count_121 : decode cX4_count 121 = .ok (.aload_n 0, 1) := by decide +kernel
theorem dX4_count_122 : decode cX4_count 122 = .ok (.getfield 119, 3) := by decide +kernel
theorem dX4_count_125 : decode cX4_count 125 = .ok (.ireturn, 1) := by decide +kernel
theorem dX4_count_126 : decode cX4_count 126 = .ok (.aload_n 0, 1) := by decide +kernel
theorem dX4_count_127 : decode cX4_count 127 = .ok (.getfield 52, 3) := by decide +kernel
theorem dX4_count_130 : decode cX4_count 130 = .ok (.ireturn, 1) := by decide +kernel
theorem dX4_count_131 : decode cX4_count 131 = .ok (.bipush (-2), 2) := by decide +kernel
theorem dX4_count_133 : decode cX4_count 133 = .ok (.ireturn, 1) := by decide +kernel
theorem dX4_letter_0 : decode cX4_letter 0 = .ok (.iload_n 1, 1) := by decide +kernel
theorem dX4_letter_1 : decode cX4_letter 1 = .ok (.iconst 0, 1) := by decide +kernel
theorem dX4_letter_2 : decode cX4_letter 2 = .ok (.bipush 25, 2) := by decide +kernel
theorem dX4_letter_4 : decode cX4_letter 4 = .ok (.invokestatic 44, 3) := by decide +kernel
theorem dX4_letter_7 : decode cX4_letter 7 = .ok (.ifCond .eq 12, 3) := by decide +kernel
theorem dX4_letter_10 : decode cX4_letter 10 = .ok (.iload_n 2, 1) := by decide +kernel
theorem dX4_letter_11 : decode cX4_letter 11 = .ok (.iconst 0, 1) := by decide +kernel
theorem dX4_letter_12 : decode cX4_letter 12 = .ok (.iconst 3, 1) := by decide +kernel
theorem dX4_letter_13 : decode cX4_letter 13 = .ok (.invokestatic 44, 3) := by decide +kernel
theorem dX4_letter_16 : decode cX4_letter 16 = .ok (.ifCond .ne 6, 3) := by decide +kernel
theorem dX4_letter_19 : decode cX4_letter 19 = .ok (.bipush (-2), 2) := by decide +kernel
theorem dX4_letter_21 : decode cX4_letter 21 = .ok (.ireturn, 1) := by decide +kernel
theorem dX4_letter_22 : decode cX4_letter 22 = .ok (.iconst 0, 1) := by decide +kernel
theorem dX4_letter_23 : decode cX4_letter 23 = .ok (.istore_n 3, 1) := by decide +kernel
theorem dX4_letter_24 : decode cX4_letter 24 = .ok (.iconst 0, 1) := by decide +kernel
theorem dX4_letter_25 : decode cX4_letter 25 = .ok (.istore 4, 2) := by decide +kernel
theorem dX4_letter_27 : decode cX4_letter 27 = .ok (.iload 4, 2) := by decide +kernel
theorem dX4_letter_29 : decode cX4_letter 29 = .ok (.aload_n 0, 1) := by decide +kernel
theorem dX4_letter_30 : decode cX4_letter 30 = .ok (.getfield 7, 3) := by decide +kernel
theorem dX4_letter_33 : decode cX4_letter 33 = .ok (.iconst 4, 1) := by decide +kernel
theorem dX4_letter_34 : decode cX4_letter 34 = .ok (.iaload, 1) := by decide +kernel
theorem dX4_letter_35 : decode cX4_letter 35 = .ok (.if_icmp .ge 58, 3) := by decide +kernel
theorem dX4_letter_38 : decode cX4_letter 38 = .ok (.iload_n 2, 1) := by decide +kernel
theorem dX4_letter_39 : decode cX4_letter 39 = .ok (.ifCond .eq 8, 3) := by decide +kernel
theorem dX4_letter_42 : decode cX4_letter 42 = .ok (.iload_n 2, 1) := by decide +kernel
theorem dX4_letter_43 : decode cX4_letter 43 = .ok (.iconst 3, 1) := by decide +kernel
theorem dX4_letter_44 : decode cX4_letter 44 = .ok (.if_icmp .ne 49, 3) := by decide +kernel
theorem dX4_letter_47 : decode cX4_letter 47 = .ok (.iload_n 3, 1) := by decide +kernel
theorem dX4_letter_48 : decode cX4_letter 48 = .ok (.aload_n 0, 1) := by decide +kernel
theorem dX4_letter_49 : decode cX4_letter 49 = .ok (.getfield 7, 3) := by decide +kernel
theorem dX4_letter_52 : decode cX4_letter 52 = .ok (.bipush 45, 2) := by decide +kernel
theorem dX4_letter_54 : decode cX4_letter 54 = .ok (.iload 4, 2) := by decide +kernel
theorem dX4_letter_56 : decode cX4_letter 56 = .ok (.iadd, 1) := by decide +kernel
theorem dX4_letter_57 : decode cX4_letter 57 = .ok (.iaload, 1) := by decide +kernel
theorem dX4_letter_58 : decode cX4_letter 58 = .ok (.iload_n 1, 1) := by decide +kernel
theorem dX4_letter_59 : decode cX4_letter 59 = .ok (.if_icmp .eq 7, 3) := by decide +kernel
theorem dX4_letter_62 : decode cX4_letter 62 = .ok (.iconst 0, 1) := by decide +kernel
theorem dX4_letter_63 : decode cX4_letter 63 = .ok (.goto 22, 3) := by decide +kernel
theorem dX4_letter_66 : decode cX4_letter 66 = .ok (.iload_n 2, 1) := by decide +kernel
theorem dX4_letter_67 : decode cX4_letter 67 = .ok (.ifCond .ne 7, 3) := by decide +kernel
theorem dX4_letter_70 : decode cX4_letter 70 = .ok (.iconst 1, 1) := by decide +kernel
theorem dX4_letter_71 : decode cX4_letter 71 = .ok (.goto 14, 3) := by decide +kernel
theorem dX4_letter_74 : decode cX4_letter 74 = .ok (.aload_n 0, 1) := by decide +kernel
theorem dX4_letter_75 : decode cX4_letter 75 = .ok (.getfield 7, 3) := by decide +kernel
theorem dX4_letter_78 : decode cX4_letter 78 = .ok (.sipush 195, 3) := by decide +kernel
theorem dX4_letter_81 : decode cX4_letter 81 = .ok (.iload 4, 2) := by decide +kernel
theorem dX4_letter_83 : decode cX4_letter 83 = .ok (.iadd, 1) := by decide +kernel
theorem dX4_letter_84 : decode cX4_letter 84 = .ok (.iaload, 1) := by decide +kernel
theorem dX4_letter_85 : decode cX4_letter 85 = .ok (.iadd, 1) := by decide +kernel
theorem dX4_letter_86 : decode cX4_letter 86 = .ok (.istore_n 3, 1) := by decide +kernel
theorem dX4_letter_87 : decode cX4_letter 87 = .ok (.iinc 4 1, 3) := by decide +kernel
theorem dX4_letter_90 : decode cX4_letter 90 = .ok (.goto (-63), 3) := by decide +kernel
theorem dX4_letter_93 : decode cX4_letter 93 = .ok (.iconst 0, 1) := by decide +kernel
theorem dX4_letter_94 : decode cX4_letter 94 = .ok (.istore 4, 2) := by decide +kernel
theorem dX4_letter_96 : decode cX4_letter 96 = .ok (.iload 4, 2) := by decide +kernel
theorem dX4_letter_98 : decode cX4_letter 98 = .ok (.aload_n 0, 1) := by decide +kernel
theorem dX4_letter_99 : decode cX4_letter 99 = .ok (.getfield 7, 3) := by decide +kernel
theorem dX4_letter_102 : decode cX4_letter 102 = .ok (.iconst 3, 1) := by decide +kernel
theorem dX4_letter_103 : decode cX4_letter 103 = .ok (.iaload, 1) := by decide +kernel
theorem dX4_letter_104 : decode cX4_letter 104 = .ok (.if_icmp .ge 55, 3) := by decide +kernel
theorem dX4_letter_107 : decode cX4_letter 107 = .ok (.iload_n 2, 1) := by decide +kernel
theorem dX4_letter_108 : decode cX4_letter 108 = .ok (.iconst 1, 1) := by decide +kernel
theorem dX4_letter_109 : decode cX4_letter 109 = .ok (.if_icmp .eq 8, 3) := by decide +kernel
theorem dX4_letter_112 : decode cX4_letter 112 = .ok (.iload_n 2, 1) := by decide +kernel
theorem dX4_letter_113 : decode cX4_letter 113 = .ok (.iconst 2, 1) := by decide +kernel
theorem dX4_letter_114 : decode cX4_letter 114 = .ok (.if_icmp .ne 45, 3) := by decide +kernel
theorem dX4_letter_117 : decode cX4_letter 117 = .ok (.iload_n 3, 1) := by decide +kernel
theorem dX4_letter_118 : decode cX4_letter 118 = .ok (.iload_n 2, 1) := by decide +kernel
theorem dX4_letter_119 : decode cX4_letter 119 = .ok (.iconst 1, 1) := by decide +kernel
theorem dX4_letter_120 : decode cX4_letter 120 = .ok (.if_icmp .ne 16, 3) := by decide +kernel
theorem dX4_letter_123 : decode cX4_letter 123 = .ok (.aload_n 0, 1) := by decide +kernel
theorem dX4_letter_124 : decode cX4_letter 124 = .ok (.iload 4, 2) := by decide +kernel
theorem dX4_letter_126 : decode cX4_letter 126 = .ok (.iload_n 1, 1) := by decide +kernel
theorem dX4_letter_127 : decode cX4_letter 127 = .ok (.invokevirtual 74, 3) := by decide +kernel
theorem dX4_letter_130 : decode cX4_letter 130 = .ok (.ifCond .le 20, 3) := by decide +kernel
theorem dX4_letter_133 : decode cX4_letter 133 = .ok (.goto 13, 3) := by decide +kernel
theorem dX4_letter_136 : decode cX4_letter 136 = .ok (.aload_n 0, 1) := by decide +kernel
theorem dX4_letter_137 : decode cX4_letter 137 = .ok (.iload 4, 2) := by decide +kernel
theorem dX4_letter_139 : decode cX4_letter 139 = .ok (.invokevirtual 89, 3) := by decide +kernel
theorem dX4_letter_142 : decode cX4_letter 142 = .ok (.iload_n 1, 1) := by decide +kernel
theorem dX4_letter_143 : decode cX4_letter 143 = .ok (.if_icmp .ne 7, 3) := by decide +kernel
theorem dX4_letter_146 : decode cX4_letter 146 = .ok (.iconst 1, 1) := by decide +kernel
theorem dX4_letter_147 : decode cX4_letter 147 = .ok (.goto 4, 3) := by decide +kernel
theorem dX4_letter_150 : decode cX4_letter 150 = .ok (.iconst 0, 1) := by decide +kernel
theorem dX4_letter_151 : decode cX4_letter 151 = .ok (.iadd, 1) := by decide +kernel
theorem dX4_letter_152 : decode cX4_letter 152 = .ok (.istore_n 3, 1) := by decide +kernel
theorem dX4_letter_153 : decode cX4_letter 153 = .ok (.iinc 4 1, 3) := by decide +kernel
theorem dX4_letter_156 : decode cX4_letter 156 = .ok (.goto (-60), 3) := by decide +kernel
theorem dX4_letter_159 : decode cX4_letter 159 = .ok (.iload_n 3, 1) := by decide +kernel
theorem dX4_letter_160 : decode cX4_letter 160 = .ok (.ireturn, 1) := by decide +kernel
theorem dX4_sideBySide_0 : decode cX4_sideBySide 0 = .ok (.iload_n 1, 1) := by decide +kernel
theorem dX4_sideBySide_1 : decode cX4_sideBySide 1 = .ok (.iconst 0, 1) := by decide +kernel
theorem dX4_sideBySide_2 : decode cX4_sideBySide 2 = .ok (.bipush 25, 2) := by decide +kernel
theorem dX4_sideBySide_4 : decode cX4_sideBySide 4 = .ok (.invokestatic 44, 3) := by decide +kernel
theorem dX4_sideBySide_7 : decode cX4_sideBySide 7 = .ok (.ifCond .eq 22, 3) := by decide +kernel
theorem dX4_sideBySide_10 : decode cX4_sideBySide 10 = .ok (.iload_n 2, 1) := by decide +kernel
theorem dX4_sideBySide_11 : decode cX4_sideBySide 11 = .ok (.iconst 0, 1) := by decide +kernel
theorem dX4_sideBySide_12 : decode cX4_sideBySide 12 = .ok (.bipush 25, 2) := by decide +kernel
theorem dX4_sideBySide_14 : decode cX4_sideBySide 14 = .ok (.invokestatic 44, 3) := by decide +kernel
theorem dX4_sideBySide_17 : decode cX4_sideBySide 17 = .ok (.ifCond .eq 12, 3) := by decide +kernel
theorem dX4_sideBySide_20 : decode cX4_sideBySide 20 = .ok (.iload_n 3, 1) := by decide +kernel
theorem dX4_sideBySide_21 : decode cX4_sideBySide 21 = .ok (.iconst 0, 1) := by decide +kernel
theorem dX4_sideBySide_22 : decode cX4_sideBySide 22 = .ok (.iconst 2, 1) := by decide +kernel
theorem dX4_sideBySide_23 : decode cX4_sideBySide 23 = .ok (.invokestatic 44, 3) := by decide +kernel
theorem dX4_sideBySide_26 : decode cX4_sideBySide 26 = .ok (.ifCond .ne 6, 3) := by decide +kernel
theorem dX4_sideBySide_29 : decode cX4_sideBySide 29 = .ok (.bipush (-2), 2) := by decide +kernel
theorem dX4_sideBySide_31 : decode cX4_sideBySide 31 = .ok (.ireturn, 1) := by decide +kernel
theorem dX4_sideBySide_32 : decode cX4_sideBySide 32 = .ok (.iconst 0, 1) := by decide +kernel
theorem dX4_sideBySide_33 : decode cX4_sideBySide 33 = .ok (.istore 4, 2) := by decide +kernel
theorem dX4_sideBySide_35 : decode cX4_sideBySide 35 = .ok (.bipush (-6), 2) := by decide +kernel
theorem dX4_sideBySide_37 : decode cX4_sideBySide 37 = .ok (.istore 5, 2) := by decide +kernel
theorem dX4_sideBySide_39 : decode cX4_sideBySide 39 = .ok (.bipush (-6), 2) := by decide +kernel
theorem dX4_sideBySide_41 : decode cX4_sideBySide 41 = .ok (.istore 6, 2) := by decide +kernel
theorem dX4_sideBySide_43 : decode cX4_sideBySide 43 = .ok (.iconst 0, 1) := by decide +kernel
theorem dX4_sideBySide_44 : decode cX4_sideBySide 44 = .ok (.istore 7, 2) := by decide +kernel
theorem dX4_sideBySide_46 : decode cX4_sideBySide 46 = .ok (.iload 7, 2) := by decide +kernel
theorem dX4_sideBySide_48 : decode cX4_sideBySide 48 = .ok (.aload_n 0, 1) := by decide +kernel
theorem dX4_sideBySide_49 : decode cX4_sideBySide 49 = .ok (.getfield 7, 3) := by decide +kernel
theorem dX4_sideBySide_52 : decode cX4_sideBySide 52 = .ok (.iconst 3, 1) := by decide +kernel
theorem dX4_sideBySide_53 : decode cX4_sideBySide 53 = .ok (.iaload, 1) := by decide +kernel
theorem dX4_sideBySide_54 : decode cX4_sideBySide 54 = .ok (.if_icmp .ge 133, 3) := by decide +kernel
theorem dX4_sideBySide_57 : decode cX4_sideBySide 57 = .ok (.iconst 0, 1) := by decide +kernel
theorem dX4_sideBySide_58 : decode cX4_sideBySide 58 = .ok (.istore 8, 2) := by decide +kernel
theorem dX4_sideBySide_60 : decode cX4_sideBySide 60 = .ok (.iload 8, 2) := by decide +kernel
theorem dX4_sideBySide_62 : decode cX4_sideBySide 62 = .ok (.aload_n 0, 1) := by decide +kernel
theorem dX4_sideBySide_63 : decode cX4_sideBySide 63 = .ok (.getfield 7, 3) := by decide +kernel
theorem dX4_sideBySide_66 : decode cX4_sideBySide 66 = .ok (.bipush 9, 2) := by decide +kernel
theorem dX4_sideBySide_68 : decode cX4_sideBySide 68 = .ok (.iload 7, 2) := by decide +kernel
theorem dX4_sideBySide_70 : decode cX4_sideBySide 70 = .ok (.iadd, 1) := by decide +kernel
theorem dX4_sideBySide_71 : decode cX4_sideBySide 71 = .ok (.iaload, 1) := by decide +kernel
theorem dX4_sideBySide_72 : decode cX4_sideBySide 72 = .ok (.iconst 1, 1) := by decide +kernel
theorem dX4_sideBySide_73 : decode cX4_sideBySide 73 = .ok (.isub, 1) := by decide +kernel
theorem dX4_sideBySide_74 : decode cX4_sideBySide 74 = .ok (.if_icmp .ge 107, 3) := by decide +kernel
theorem dX4_sideBySide_77 : decode cX4_sideBySide 77 = .ok (.bipush 45, 2) := by decide +kernel
theorem dX4_sideBySide_79 : decode cX4_sideBySide 79 = .ok (.aload_n 0, 1) := by decide +kernel
theorem dX4_sideBySide_80 : decode cX4_sideBySide 80 = .ok (.iload 7, 2) := by decide +kernel
theorem dX4_sideBySide_82 : decode cX4_sideBySide 82 = .ok (.invokevirtual 60, 3) := by decide +kernel
theorem dX4_sideBySide_85 : decode cX4_sideBySide 85 = .ok (.iadd, 1) := by decide +kernel
theorem dX4_sideBySide_86 : decode cX4_sideBySide 86 = .ok (.iload 8, 2) := by decide +kernel
theorem dX4_sideBySide_88 : decode cX4_sideBySide 88 = .ok (.iadd, 1) := by decide +kernel
theorem dX4_sideBySide_89 : decode cX4_sideBySide 89 = .ok (.istore 9, 2) := by decide +kernel
theorem dX4_sideBySide_91 : decode cX4_sideBySide 91 = .ok (.aload_n 0, 1) := by decide +kernel
theorem dX4_sideBySide_92 : decode cX4_sideBySide 92 = .ok (.getfield 7, 3) := by decide +kernel
theorem dX4_sideBySide_95 : decode cX4_sideBySide 95 = .ok (.iload 9, 2) := by decide +kernel
theorem dX4_sideBySide_97 : decode cX4_sideBySide 97 = .ok (.iaload, 1) := by decide +kernel
theorem dX4_sideBySide_98 : decode cX4_sideBySide 98 = .ok (.iload_n 1, 1) := by decide +kernel
theorem dX4_sideBySide_99 : decode cX4_sideBySide 99 = .ok (.if_icmp .ne 20, 3) := by decide +kernel
theorem dX4_sideBySide_102 : decode cX4_sideBySide 102 = .ok (.aload_n 0, 1) := by decide +kernel
theorem dX4_sideBySide_103 : decode cX4_sideBySide 103 = .ok (.getfield 7, 3) := by decide +kernel
theorem dX4_sideBySide_106 : decode cX4_sideBySide 106 = .ok (.iload 9, 2) := by decide +kernel
theorem dX4_sideBySide_108 : decode cX4_sideBySide 108 = .ok (.iconst 1, 1) := by decide +kernel
theorem dX4_sideBySide_109 : decode cX4_sideBySide 109 = .ok (.iadd, 1) := by decide +kernel
theorem dX4_sideBySide_110 : decode cX4_sideBySide 110 = .ok (.iaload, 1) := by decide +kernel
theorem dX4_sideBySide_111 : decode cX4_sideBySide 111 = .ok (.iload_n 2, 1) := by decide +kernel
theorem dX4_sideBySide_112 : decode cX4_sideBySide 112 = .ok (.if_icmp .ne 7, 3) := by decide +kernel
theorem dX4_sideBySide_115 : decode cX4_sideBySide 115 = .ok (.iconst 1, 1) := by decide +kernel
theorem dX4_sideBySide_116 : decode cX4_sideBySide 116 = .ok (.goto 4, 3) := by decide +kernel
theorem dX4_sideBySide_119 : decode cX4_sideBySide 119 = .ok (.iconst 0, 1) := by decide +kernel
theorem dX4_sideBySide_120 : decode cX4_sideBySide 120 = .ok (.istore 10, 2) := by decide +kernel
theorem dX4_sideBySide_122 : decode cX4_sideBySide 122 = .ok (.iload 10, 2) := by decide +kernel
theorem dX4_sideBySide_124 : decode cX4_sideBySide 124 = .ok (.ifCond .eq 13, 3) := by decide +kernel
theorem dX4_sideBySide_127 : decode cX4_sideBySide 127 = .ok (.iload 4, 2) := by decide +kernel
theorem dX4_sideBySide_129 : decode cX4_sideBySide 129 = .ok (.ifCond .ne 8, 3) := by decide +kernel
theorem dX4_sideBySide_132 : decode cX4_sideBySide 132 = .ok (.iload 8, 2) := by decide +kernel
theorem dX4_sideBySide_134 : decode cX4_sideBySide 134 = .ok (.goto 5, 3) := by decide +kernel
theorem dX4_sideBySide_137 : decode cX4_sideBySide 137 = .ok (.iload 6, 2) := by decide +kernel
theorem dX4_sideBySide_139 : decode cX4_sideBySide 139 = .ok (.istore 6, 2) := by decide +kernel
theorem dX4_sideBySide_141 : decode cX4_sideBySide 141 = .ok (.iload 10, 2) := by decide +kernel
theorem dX4_sideBySide_143 : decode cX4_sideBySide 143 = .ok (.ifCond .eq 13, 3) := by decide +kernel
theorem dX4_sideBySide_146 : decode cX4_sideBySide 146 = .ok (.iload 4, 2) := by decide +kernel
theorem dX4_sideBySide_148 : decode cX4_sideBySide 148 = .ok (.ifCond .ne 8, 3) := by decide +kernel
theorem dX4_sideBySide_151 : decode cX4_sideBySide 151 = .ok (.iload 7, 2) := by decide +kernel
theorem dX4_sideBySide_153 : decode cX4_sideBySide 153 = .ok (.goto 5, 3) := by decide +kernel
theorem dX4_sideBySide_156 : decode cX4_sideBySide 156 = .ok (.iload 5, 2) := by decide +kernel
theorem dX4_sideBySide_158 : decode cX4_sideBySide 158 = .ok (.istore 5, 2) := by decide +kernel
theorem dX4_sideBySide_160 : decode cX4_sideBySide 160 = .ok (.iload 4, 2) := by decide +kernel
theorem dX4_sideBySide_162 : decode cX4_sideBySide 162 = .ok (.iload 10, 2) := by decide +kernel
theorem dX4_sideBySide_164 : decode cX4_sideBySide 164 = .ok (.ifCond .eq 7, 3) := by decide +kernel
theorem dX4_sideBySide_167 : decode cX4_sideBySide 167 = .ok (.iconst 1, 1) := by decide +kernel
theorem dX4_sideBySide_168 : decode cX4_sideBySide 168 = .ok (.goto 4, 3) := by decide +kernel
theorem dX4_sideBySide_171 : decode cX4_sideBySide 171 = .ok (.iconst 0, 1) := by decide +kernel
theorem dX4_sideBySide_172 : decode cX4_sideBySide 172 = .ok (.iadd, 1) := by decide +kernel
theorem dX4_sideBySide_173 : decode cX4_sideBySide 173 = .ok (.istore 4, 2) := by decide +kernel
theorem dX4_sideBySide_175 : decode cX4_sideBySide 175 = .ok (.iinc 8 1, 3) := by decide +kernel
theorem dX4_sideBySide_178 : decode cX4_sideBySide 178 = .ok (.goto (-118), 3) := by decide +kernel
theorem dX4_sideBySide_181 : decode cX4_sideBySide 181 = .ok (.iinc 7 1, 3) := by decide +kernel
theorem dX4_sideBySide_184 : decode cX4_sideBySide 184 = .ok (.goto (-138), 3) := by decide +kernel
theorem dX4_sideBySide_187 : decode cX4_sideBySide 187 = .ok (.iload_n 3, 1) := by decide +kernel
theorem dX4_sideBySide_188 : decode cX4_sideBySide 188 = .ok (.ifCond .ne 8, 3) := by decide +kernel
theorem dX4_sideBySide_191 : decode cX4_sideBySide 191 = .ok (.iload 4, 2) := by decide +kernel
theorem dX4_sideBySide_193 : decode cX4_sideBySide 193 = .ok (.goto 15, 3) := by decide +kernel
theorem dX4_sideBySide_196 : decode cX4_sideBySide 196 = .ok (.iload_n 3, 1) := by decide +kernel
theorem dX4_sideBySide_197 : decode cX4_sideBySide 197 = .ok (.iconst 1, 1) := by decide +kernel
theorem dX4_sideBySide_198 : decode cX4_sideBySide 198 = .ok (.if_icmp .ne 8, 3) := by decide +kernel
theorem dX4_sideBySide_201 : decode cX4_sideBySide 201 = .ok (.iload 5, 2) := by decide +kernel
theorem dX4_sideBySide_203 : decode cX4_sideBySide 203 = .ok (.goto 5, 3) := by decide +kernel
theorem dX4_sideBySide_206 : decode cX4_sideBySide 206 = .ok (.iload 6, 2) := by decide +kernel
theorem dX4_sideBySide_208 : decode cX4_sideBySide 208 = .ok (.ireturn, 1) := by decide +kernel
theorem ggX4_pass_X4_in : GoodIn wsX4_pass wsX4_in := goodIn_r _ [5] rfl (by decide +kernel)
theorem gX4_pass_X4_in : GoodIn wsX4_pass (va_wsS RX4 44 yX4_in wsX4_in) := goodIn_app (goodIn_r _ [2, 3, 4] rfl (by decide +kernel)) ggX4_pass_X4_in
theorem ggX4_pass_X4_know : GoodIn wsX4_pass wsX4_know := goodIn_r _ [9, 10, 11, 1, 16, 17, 18, 19, 20, 21, 22, 23, 24, 25, 26, 27, 28, 29, 30, 31, 32, 33, 34, 35, 36] rfl (by decide +kernel)
theorem gX4_pass_X4_know : GoodIn wsX4_pass (wsV RX4 78 RX4 yX4_know wsX4_know) := goodIn_app (goodIn_r _ [6, 7, 8, 4] rfl (by decide +kernel)) ggX4_pass_X4_know
theorem ggX4_pass_X4_allHeat : GoodIn wsX4_pass wsX4_allHeat := goodIn_r _ [15, 1, 16, 17, 18, 19, 20, 21, 22, 23, 24, 25, 26, 27, 28, 29, 30, 31, 32, 33, 34, 35, 36] rfl (by decide +kernel)
theorem gX4_pass_X4_allHeat : GoodIn wsX4_pass (wsV RX4 98 RX4 yX4_allHeat wsX4_allHeat) := goodIn_app (goodIn_r _ [12, 13, 14, 4] rfl (by decide +kernel)) ggX4_pass_X4_allHeat
theorem ggX4_burn_X4_isStory : GoodIn wsX4_burn wsX4_isStory := goodIn_r _ [6, 1, 7, 8, 5, 9, 28, 29, 30, 31, 32, 33, 34, 35, 36, 37, 38, 39, 40, 41, 42, 43, 44, 45, 46, 47, 48] rfl (by decide +kernel)
theorem gX4_burn_X4_isStory : GoodIn wsX4_burn (wsV RX4 48 RX4 yX4_isStory wsX4_isStory) := goodIn_app (goodIn_r _ [2, 3, 4, 5] rfl (by decide +kernel)) ggX4_burn_X4_isStory
theorem ggX4_burn_X4_know : GoodIn wsX4_burn wsX4_know := goodIn_r _ [13, 14, 15, 1, 28, 29, 30, 31, 32, 33, 34, 35, 36, 37, 38, 39, 40, 41, 42, 43, 44, 45, 46, 47, 48] rfl (by decide +kernel)
theorem gX4_burn_X4_know : GoodIn wsX4_burn (wsV RX4 78 RX4 yX4_know wsX4_know) := goodIn_app (goodIn_r _ [10, 11, 12, 5] rfl (by decide +kernel)) ggX4_burn_X4_know
theorem ggX4_burn_X4_first : GoodIn wsX4_burn wsX4_first := goodIn_r _ [19, 1, 28, 29, 30, 31, 32, 33, 34, 35, 36, 37, 38, 39, 40, 41, 42, 43, 44, 45, 46, 47, 48] rfl (by decide +kernel)
theorem gX4_burn_X4_first : GoodIn wsX4_burn (wsV RX4 60 RX4 yX4_first wsX4_first) := goodIn_app (goodIn_r _ [16, 17, 18, 5] rfl (by decide +kernel)) ggX4_burn_X4_first
theorem ggX4_burn_X4_removeWords : GoodIn wsX4_burn wsX4_removeWords := goodIn_r _ [23, 1, 28, 29, 30, 31, 32, 33, 34, 35, 36, 37, 38, 39, 40, 41, 42, 43, 44, 45, 46, 47, 48] rfl (by decide +kernel)
theorem gX4_burn_X4_removeWords : GoodIn wsX4_burn (wsV RX4 92 RX4 yX4_removeWords wsX4_removeWords) := goodIn_app (goodIn_r _ [20, 21, 22, 5] rfl (by decide +kernel)) ggX4_burn_X4_removeWords
theorem ggX4_burn_X4_removeStory : GoodIn wsX4_burn wsX4_removeStory := goodIn_r _ [27, 1, 28, 29, 30, 31, 32, 33, 34, 35, 36, 37, 38, 39, 40, 41, 42, 43, 44, 45, 46, 47, 48] rfl (by decide +kernel)
theorem gX4_burn_X4_removeStory : GoodIn wsX4_burn (wsV RX4 95 RX4 yX4_removeStory wsX4_removeStory) := goodIn_app (goodIn_r _ [24, 25, 26, 5] rfl (by decide +kernel)) ggX4_burn_X4_removeStory
theorem ggX4_word_X4_isWord : GoodIn wsX4_word wsX4_isWord := goodIn_r _ [6, 1, 7, 8, 9, 5, 10, 11, 12, 13, 22, 23, 24, 25, 26, 27, 28, 29, 30, 31, 32, 33, 34, 35, 36, 37, 38, 39, 40, 41, 42] rfl (by decide +kernel)
theorem gX4_word_X4_isWord : GoodIn wsX4_word (wsV RX4 81 RX4 yX4_isWord wsX4_isWord) := goodIn_app (goodIn_r _ [2, 3, 4, 5] rfl (by decide +kernel)) ggX4_word_X4_isWord
theorem ggX4_word_X4_first : GoodIn wsX4_word wsX4_first := goodIn_r _ [17, 1, 22, 23, 24, 25, 26, 27, 28, 29, 30, 31, 32, 33, 34, 35, 36, 37, 38, 39, 40, 41, 42] rfl (by decide +kernel)
theorem gX4_word_X4_first : GoodIn wsX4_word (wsV RX4 60 RX4 yX4_first wsX4_first) := goodIn_app (goodIn_r _ [14, 15, 16, 5] rfl (by decide +kernel)) ggX4_word_X4_first
theorem ggX4_word_X4_times : GoodIn wsX4_word wsX4_times := goodIn_r _ [21, 1, 14, 15, 16, 5, 17, 22, 23, 24, 25, 26, 27, 28, 29, 30, 31, 32, 33, 34, 35, 36, 37, 38, 39, 40, 41, 42] rfl (by decide +kernel)
theorem gX4_word_X4_times : GoodIn wsX4_word (wsV RX4 74 RX4 yX4_times wsX4_times) := goodIn_app (goodIn_r _ [18, 19, 20, 5] rfl (by decide +kernel)) ggX4_word_X4_times
theorem ggX4_hottest_X4_first : GoodIn wsX4_hottest wsX4_first := goodIn_r _ [6, 1, 7, 8, 9, 10, 11, 12, 13, 14, 15, 16, 17, 18, 19, 20, 21, 22, 23, 24, 25, 26, 27] rfl (by decide +kernel)
theorem gX4_hottest_X4_first : GoodIn wsX4_hottest (wsV RX4 60 RX4 yX4_first wsX4_first) := goodIn_app (goodIn_r _ [2, 3, 4, 5] rfl (by decide +kernel)) ggX4_hottest_X4_first
theorem ggX4_unlike_X4_times : GoodIn wsX4_unlike wsX4_times := goodIn_r _ [5, 6, 7, 8, 9, 4, 10, 11, 12, 13, 14, 15, 16, 17, 18, 19, 20, 21, 22, 23, 24, 25, 26, 27, 28, 29, 30, 31] rfl (by decide +kernel)
theorem gX4_unlike_X4_times : GoodIn wsX4_unlike (wsV RX4 74 RX4 yX4_times wsX4_times) := goodIn_app (goodIn_r _ [1, 2, 3, 4] rfl (by decide +kernel)) ggX4_unlike_X4_times
theorem ggX4_isSameBackwards_X4_first : GoodIn wsX4_isSameBackwards wsX4_first := goodIn_r _ [6, 1, 7, 8, 9, 10, 11, 12, 13, 14, 15, 16, 17, 18, 19, 20, 21, 22, 23, 24, 25, 26, 27] rfl (by decide +kernel)
theorem gX4_isSameBackwards_X4_first : GoodIn wsX4_isSameBackwards (wsV RX4 60 RX4 yX4_first wsX4_first) := goodIn_app (goodIn_r _ [2, 3, 4, 5] rfl (by decide +kernel)) ggX4_isSameBackwards_X4_first
theorem ggX4_story_X4_isStory : GoodIn wsX4_story wsX4_isStory := goodIn_r _ [6, 1, 7, 8, 5, 9, 38, 39, 40, 41, 42, 43, 44, 45, 46, 47, 48, 49, 50, 51, 52, 53, 54, 55, 56, 57, 58] rfl (by decide +kernel)
theorem gX4_story_X4_isStory : GoodIn wsX4_story (wsV RX4 48 RX4 yX4_isStory wsX4_isStory) := goodIn_app (goodIn_r _ [2, 3, 4, 5] rfl (by decide +kernel)) ggX4_story_X4_isStory
theorem ggX4_story_X4_heatOf : GoodIn wsX4_story wsX4_heatOf := goodIn_r _ [13, 1, 14, 15, 16, 5, 17, 38, 39, 40, 41, 42, 43, 44, 45, 46, 47, 48, 49, 50, 51, 52, 53, 54, 55, 56, 57, 58] rfl (by decide +kernel)
theorem gX4_story_X4_heatOf : GoodIn wsX4_story (wsV RX4 101 RX4 yX4_heatOf wsX4_heatOf) := goodIn_app (goodIn_r _ [10, 11, 12, 5] rfl (by decide +kernel)) ggX4_story_X4_heatOf
theorem ggX4_story_X4_theme : GoodIn wsX4_story wsX4_theme := goodIn_r _ [21, 22, 23, 24, 5, 25, 1, 14, 15, 16, 17, 38, 39, 40, 41, 42, 43, 44, 45, 46, 47, 48, 49, 50, 51, 52, 53, 54, 55, 56, 57, 58] rfl (by decide +kernel)
theorem gX4_story_X4_theme : GoodIn wsX4_story (wsV RX4 89 RX4 yX4_theme wsX4_theme) := goodIn_app (goodIn_r _ [18, 19, 20, 5] rfl (by decide +kernel)) ggX4_story_X4_theme
theorem ggX4_story_X4_hottest : GoodIn wsX4_story wsX4_hottest := goodIn_r _ [29, 1, 14, 15, 16, 5, 17, 38, 39, 40, 41, 42, 43, 44, 45, 46, 47, 48, 49, 50, 51, 52, 53, 54, 55, 56, 57, 58] rfl (by decide +kernel)
theorem gX4_story_X4_hottest : GoodIn wsX4_story (wsV RX4 104 RX4 yX4_hottest wsX4_hottest) := goodIn_app (goodIn_r _ [26, 27, 28, 5] rfl (by decide +kernel)) ggX4_story_X4_hottest
theorem ggX4_story_X4_unlike : GoodIn wsX4_story wsX4_unlike := goodIn_r _ [33, 22, 23, 24, 5, 25, 1, 14, 15, 16, 17, 38, 39, 40, 41, 42, 43, 44, 45, 46, 47, 48, 49, 50, 51, 52, 53, 54, 55, 56, 57, 58] rfl (by decide +kernel)
theorem gX4_story_X4_unlike : GoodIn wsX4_story (wsV RX4 107 RX4 yX4_unlike wsX4_unlike) := goodIn_app (goodIn_r _ [30, 31, 32, 5] rfl (by decide +kernel)) ggX4_story_X4_unlike
theorem ggX4_story_X4_isSameBackwards : GoodIn wsX4_story wsX4_isSameBackwards := goodIn_r _ [37, 1, 14, 15, 16, 5, 17, 38, 39, 40, 41, 42, 43, 44, 45, 46, 47, 48, 49, 50, 51, 52, 53, 54, 55, 56, 57, 58] rfl (by decide +kernel)
theorem gX4_story_X4_isSameBackwards : GoodIn wsX4_story (wsV RX4 110 RX4 yX4_isSameBackwards wsX4_isSameBackwards) := goodIn_app (goodIn_r _ [34, 35, 36, 5] rfl (by decide +kernel)) ggX4_story_X4_isSameBackwards
theorem ggX4_count_X4_allHeat : GoodIn wsX4_count wsX4_allHeat := goodIn_r _ [8, 1, 17, 18, 19, 20, 21, 22, 23, 24, 25, 26, 27, 28, 29, 30, 31, 32, 33, 34, 35, 36, 37] rfl (by decide +kernel)
theorem gX4_count_X4_allHeat : GoodIn wsX4_count (wsV RX4 98 RX4 yX4_allHeat wsX4_allHeat) := goodIn_app (goodIn_r _ [4, 5, 6, 7] rfl (by decide +kernel)) ggX4_count_X4_allHeat
theorem ggX4_count_X4_families : GoodIn wsX4_count wsX4_families := goodIn_r _ [12, 1, 17, 18, 19, 20, 21, 22, 23, 24, 25, 26, 27, 28, 29, 30, 31, 32, 33, 34, 35, 36, 37] rfl (by decide +kernel)
theorem gX4_count_X4_families : GoodIn wsX4_count (wsV RX4 113 RX4 yX4_families wsX4_families) := goodIn_app (goodIn_r _ [9, 10, 11, 7] rfl (by decide +kernel)) ggX4_count_X4_families
theorem ggX4_count_X4_greatest : GoodIn wsX4_count wsX4_greatest := goodIn_r _ [16, 1, 17, 18, 19, 20, 21, 22, 23, 24, 25, 26, 27, 28, 29, 30, 31, 32, 33, 34, 35, 36, 37] rfl (by decide +kernel)
theorem gX4_count_X4_greatest : GoodIn wsX4_count (wsV RX4 116 RX4 yX4_greatest wsX4_greatest) := goodIn_app (goodIn_r _ [13, 14, 15, 7] rfl (by decide +kernel)) ggX4_count_X4_greatest
theorem ggX4_letter_X4_in : GoodIn wsX4_letter wsX4_in := goodIn_r _ [5] rfl (by decide +kernel)
theorem gX4_letter_X4_in : GoodIn wsX4_letter (va_wsS RX4 44 yX4_in wsX4_in) := goodIn_app (goodIn_r _ [2, 3, 4] rfl (by decide +kernel)) ggX4_letter_X4_in
theorem ggX4_letter_X4_times : GoodIn wsX4_letter wsX4_times := goodIn_r _ [9, 1, 10, 11, 12, 4, 13, 18, 19, 20, 21, 22, 23, 24, 25, 26, 27, 28, 29, 30, 31, 32, 33, 34, 35, 36, 37, 38] rfl (by decide +kernel)
theorem gX4_letter_X4_times : GoodIn wsX4_letter (wsV RX4 74 RX4 yX4_times wsX4_times) := goodIn_app (goodIn_r _ [6, 7, 8, 4] rfl (by decide +kernel)) ggX4_letter_X4_times
theorem ggX4_letter_X4_theme : GoodIn wsX4_letter wsX4_theme := goodIn_r _ [17, 6, 7, 8, 4, 9, 1, 10, 11, 12, 13, 18, 19, 20, 21, 22, 23, 24, 25, 26, 27, 28, 29, 30, 31, 32, 33, 34, 35, 36, 37, 38] rfl (by decide +kernel)
theorem gX4_letter_X4_theme : GoodIn wsX4_letter (wsV RX4 89 RX4 yX4_theme wsX4_theme) := goodIn_app (goodIn_r _ [14, 15, 16, 4] rfl (by decide +kernel)) ggX4_letter_X4_theme
theorem ggX4_sideBySide_X4_in : GoodIn wsX4_sideBySide wsX4_in := goodIn_r _ [5] rfl (by decide +kernel)
theorem gX4_sideBySide_X4_in : GoodIn wsX4_sideBySide (va_wsS RX4 44 yX4_in wsX4_in) := goodIn_app (goodIn_r _ [2, 3, 4] rfl (by decide +kernel)) ggX4_sideBySide_X4_in
theorem ggX4_sideBySide_X4_first : GoodIn wsX4_sideBySide wsX4_first := goodIn_r _ [9, 1, 10, 11, 12, 13, 14, 15, 16, 17, 18, 19, 20, 21, 22, 23, 24, 25, 26, 27, 28, 29, 30] rfl (by decide +kernel)
theorem gX4_sideBySide_X4_first : GoodIn wsX4_sideBySide (wsV RX4 60 RX4 yX4_first wsX4_first) := goodIn_app (goodIn_r _ [6, 7, 8, 4] rfl (by decide +kernel)) ggX4_sideBySide_X4_first
