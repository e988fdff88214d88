theorem dX4_reactOne_0 : decode cX4_reactOne 0 = .ok (.aload_n 0, 1) := by decide +kernel
theorem dX4_reactOne_1 : decode cX4_reactOne 1 = .ok (.iload_n 1, 1) := by decide +kernel
theorem dX4_reactOne_2 : decode cX4_reactOne 2 = .ok (.invokevirtual 56, 3) := by decide +kernel
theorem dX4_reactOne_5 : decode cX4_reactOne 5 = .ok (.istore_n 2, 1) := by decide +kernel
theorem dX4_reactOne_6 : decode cX4_reactOne 6 = .ok (.iload_n 1, 1) := by decide +kernel
theorem dX4_reactOne_7 : decode cX4_reactOne 7 = .ok (.aload_n 0, 1) := by decide +kernel
theorem dX4_reactOne_8 : decode cX4_reactOne 8 = .ok (.iload_n 2, 1) := by decide +kernel
theorem dX4_reactOne_9 : decode cX4_reactOne 9 = .ok (.invokevirtual 60, 3) := by decide +kernel
theorem dX4_reactOne_12 : decode cX4_reactOne 12 = .ok (.isub, 1) := by decide +kernel
theorem dX4_reactOne_13 : decode cX4_reactOne 13 = .ok (.istore_n 3, 1) := by decide +kernel
theorem dX4_reactOne_14 : decode cX4_reactOne 14 = .ok (.iload_n 3, 1) := by decide +kernel
theorem dX4_reactOne_15 : decode cX4_reactOne 15 = .ok (.aload_n 0, 1) := by decide +kernel
theorem dX4_reactOne_16 : decode cX4_reactOne 16 = .ok (.getfield 7, 3) := by decide +kernel
theorem dX4_reactOne_19 : decode cX4_reactOne 19 = .ok (.bipush 9, 2) := by decide +kernel
theorem dX4_reactOne_21 : decode cX4_reactOne 21 = .ok (.iload_n 2, 1) := by decide +kernel
theorem dX4_reactOne_22 : decode cX4_reactOne 22 = .ok (.iadd, 1) := by decide +kernel
theorem dX4_reactOne_23 : decode cX4_reactOne 23 = .ok (.iaload, 1) := by decide +kernel
theorem dX4_reactOne_24 : decode cX4_reactOne 24 = .ok (.iconst 1, 1) := by decide +kernel
theorem dX4_reactOne_25 : decode cX4_reactOne 25 = .ok (.isub, 1) := by decide +kernel
theorem dX4_reactOne_26 : decode cX4_reactOne 26 = .ok (.if_icmp .ne 7, 3) := by decide +kernel
theorem dX4_reactOne_29 : decode cX4_reactOne 29 = .ok (.iconst 1, 1) := by decide +kernel
theorem dX4_reactOne_30 : decode cX4_reactOne 30 = .ok (.goto 4, 3) := by decide +kernel
theorem dX4_reactOne_33 : decode cX4_reactOne 33 = .ok (.iconst 0, 1) := by decide +kernel
theorem dX4_reactOne_34 : decode cX4_reactOne 34 = .ok (.istore 4, 2) := by decide +kernel
theorem dX4_reactOne_36 : decode cX4_reactOne 36 = .ok (.aload_n 0, 1) := by decide +kernel
theorem dX4_reactOne_37 : decode cX4_reactOne 37 = .ok (.getfield 7, 3) := by decide +kernel
theorem dX4_reactOne_40 : decode cX4_reactOne 40 = .ok (.sipush 195, 3) := by decide +kernel
theorem dX4_reactOne_43 : decode cX4_reactOne 43 = .ok (.iload_n 1, 1) := by decide +kernel
theorem dX4_reactOne_44 : decode cX4_reactOne 44 = .ok (.iadd, 1) := by decide +kernel
theorem dX4_reactOne_45 : decode cX4_reactOne 45 = .ok (.iconst 0, 1) := by decide +kernel
theorem dX4_reactOne_46 : decode cX4_reactOne 46 = .ok (.iastore, 1) := by decide +kernel
theorem dX4_reactOne_47 : decode cX4_reactOne 47 = .ok (.iload_n 3, 1) := by decide +kernel
theorem dX4_reactOne_48 : decode cX4_reactOne 48 = .ok (.ifCond .ne 17, 3) := by decide +kernel
theorem dX4_reactOne_51 : decode cX4_reactOne 51 = .ok (.aload_n 0, 1) := by decide +kernel
theorem dX4_reactOne_52 : decode cX4_reactOne 52 = .ok (.getfield 7, 3) := by decide +kernel
theorem dX4_reactOne_55 : decode cX4_reactOne 55 = .ok (.bipush 7, 2) := by decide +kernel
theorem dX4_reactOne_57 : decode cX4_reactOne 57 = .ok (.dup2, 1) := by decide +kernel
theorem dX4_reactOne_58 : decode cX4_reactOne 58 = .ok (.iaload, 1) := by decide +kernel
theorem dX4_reactOne_59 : decode cX4_reactOne 59 = .ok (.iconst 1, 1) := by decide +kernel
theorem dX4_reactOne_60 : decode cX4_reactOne 60 = .ok (.iadd, 1) := by decide +kernel
theorem dX4_reactOne_61 : decode cX4_reactOne 61 = .ok (.iastore, 1) := by decide +kernel
theorem dX4_reactOne_62 : decode cX4_reactOne 62 = .ok (.goto 45, 3) := by decide +kernel
theorem dX4_reactOne_65 : decode cX4_reactOne 65 = .ok (.aload_n 0, 1) := by decide +kernel
theorem dX4_reactOne_66 : decode cX4_reactOne 66 = .ok (.getfield 7, 3) := by decide +kernel
theorem dX4_reactOne_69 : decode cX4_reactOne 69 = .ok (.iconst 3, 1) := by decide +kernel
theorem dX4_reactOne_70 : decode cX4_reactOne 70 = .ok (.iaload, 1) := by decide +kernel
theorem dX4_reactOne_71 : decode cX4_reactOne 71 = .ok (.bipush 12, 2) := by decide +kernel
theorem dX4_reactOne_73 : decode cX4_reactOne 73 = .ok (.if_icmp .ge 23, 3) := by decide +kernel
theorem dX4_reactOne_76 : decode cX4_reactOne 76 = .ok (.aload_n 0, 1) := by decide +kernel
theorem dX4_reactOne_77 : decode cX4_reactOne 77 = .ok (.getfield 7, 3) := by decide +kernel
theorem dX4_reactOne_80 : decode cX4_reactOne 80 = .ok (.bipush 6, 2) := by decide +kernel
theorem dX4_reactOne_82 : decode cX4_reactOne 82 = .ok (.dup2, 1) := by decide +kernel
theorem dX4_reactOne_83 : decode cX4_reactOne 83 = .ok (.iaload, 1) := by decide +kernel
theorem dX4_reactOne_84 : decode cX4_reactOne 84 = .ok (.iconst 1, 1) := by decide +kernel
theorem dX4_reactOne_85 : decode cX4_reactOne 85 = .ok (.iadd, 1) := by decide +kernel
theorem dX4_reactOne_86 : decode cX4_reactOne 86 = .ok (.iastore, 1) := by decide +kernel
theorem dX4_reactOne_87 : decode cX4_reactOne 87 = .ok (.aload_n 0, 1) := by decide +kernel
theorem dX4_reactOne_88 : decode cX4_reactOne 88 = .ok (.iload_n 2, 1) := by decide +kernel
theorem dX4_reactOne_89 : decode cX4_reactOne 89 = .ok (.iload_n 3, 1) := by decide +kernel
theorem dX4_reactOne_90 : decode cX4_reactOne 90 = .ok (.invokevirtual 63, 3) := by decide +kernel
theorem dX4_reactOne_93 : decode cX4_reactOne 93 = .ok (.goto 14, 3) := by decide +kernel
theorem dX4_reactOne_96 : decode cX4_reactOne 96 = .ok (.aload_n 0, 1) := by decide +kernel
theorem dX4_reactOne_97 : decode cX4_reactOne 97 = .ok (.getfield 7, 3) := by decide +kernel
theorem dX4_reactOne_100 : decode cX4_reactOne 100 = .ok (.bipush 8, 2) := by decide +kernel
theorem dX4_reactOne_102 : decode cX4_reactOne 102 = .ok (.dup2, 1) := by decide +kernel
theorem dX4_reactOne_103 : decode cX4_reactOne 103 = .ok (.iaload, 1) := by decide +kernel
theorem dX4_reactOne_104 : decode cX4_reactOne 104 = .ok (.iconst 1, 1) := by decide +kernel
theorem dX4_reactOne_105 : decode cX4_reactOne 105 = .ok (.iadd, 1) := by decide +kernel
theorem dX4_reactOne_106 : decode cX4_reactOne 106 = .ok (.iastore, 1) := by decide +kernel
theorem dX4_reactOne_107 : decode cX4_reactOne 107 = .ok (.iload_n 3, 1) := by decide +kernel
theorem dX4_reactOne_108 : decode cX4_reactOne 108 = .ok (.ifCond .le 16, 3) := by decide +kernel
theorem dX4_reactOne_111 : decode cX4_reactOne 111 = .ok (.aload_n 0, 1) := by decide +kernel
theorem dX4_reactOne_112 : decode cX4_reactOne 112 = .ok (.iload_n 1, 1) := by decide +kernel
theorem dX4_reactOne_113 : decode cX4_reactOne 113 = .ok (.iconst 1, 1) := by decide +kernel
theorem dX4_reactOne_114 : decode cX4_reactOne 114 = .ok (.isub, 1) := by decide +kernel
theorem dX4_reactOne_115 : decode cX4_reactOne 115 = .ok (.aload_n 0, 1) := by decide +kernel
theorem dX4_reactOne_116 : decode cX4_reactOne 116 = .ok (.getfield 7, 3) := by decide +kernel
theorem dX4_reactOne_119 : decode cX4_reactOne 119 = .ok (.iconst 1, 1) := by decide +kernel
theorem dX4_reactOne_120 : decode cX4_reactOne 120 = .ok (.iaload, 1) := by decide +kernel
theorem dX4_reactOne_121 : decode cX4_reactOne 121 = .ok (.invokevirtual 67, 3) := by decide +kernel
theorem dX4_reactOne_124 : decode cX4_reactOne 124 = .ok (.iload 4, 2) := by decide +kernel
theorem dX4_reactOne_126 : decode cX4_reactOne 126 = .ok (.ifCond .ne 16, 3) := by decide +kernel
theorem dX4_reactOne_129 : decode cX4_reactOne 129 = .ok (.aload_n 0, 1) := by decide +kernel
theorem dX4_reactOne_130 : decode cX4_reactOne 130 = .ok (.iload_n 1, 1) := by decide +kernel
theorem dX4_reactOne_131 : decode cX4_reactOne 131 = .ok (.iconst 1, 1) := by decide +kernel
theorem dX4_reactOne_132 : decode cX4_reactOne 132 = .ok (.iadd, 1) := by decide +kernel
theorem dX4_reactOne_133 : decode cX4_reactOne 133 = .ok (.aload_n 0, 1) := by decide +kernel
theorem dX4_reactOne_134 : decode cX4_reactOne 134 = .ok (.getfield 7, 3) := by decide +kernel
theorem dX4_reactOne_137 : decode cX4_reactOne 137 = .ok (.iconst 1, 1) := by decide +kernel
theorem dX4_reactOne_138 : decode cX4_reactOne 138 = .ok (.iaload, 1) := by decide +kernel
theorem dX4_reactOne_139 : decode cX4_reactOne 139 = .ok (.invokevirtual 67, 3) := by decide +kernel
theorem dX4_reactOne_142 : decode cX4_reactOne 142 = .ok (.return_, 1) := by decide +kernel
theorem dX4_react_0 : decode cX4_react 0 = .ok (.iconst 0, 1) := by decide +kernel
theorem dX4_react_1 : decode cX4_react 1 = .ok (.istore_n 1, 1) := by decide +kernel
theorem dX4_react_2 : decode cX4_react 2 = .ok (.iconst 0, 1) := by decide +kernel
theorem dX4_react_3 : decode cX4_react 3 = .ok (.istore_n 2, 1) := by decide +kernel
theorem dX4_react_4 : decode cX4_react 4 = .ok (.iload_n 2, 1) := by decide +kernel
theorem dX4_react_5 : decode cX4_react 5 = .ok (.aload_n 0, 1) := by decide +kernel
theorem dX4_react_6 : decode cX4_react 6 = .ok (.getfield 7, 3) := by decide +kernel
theorem dX4_react_9 : decode cX4_react 9 = .ok (.iconst 4, 1) := by decide +kernel
theorem dX4_react_10 : decode cX4_react 10 = .ok (.iaload, 1) := by decide +kernel
theorem dX4_react_11 : decode cX4_react 11 = .ok (.if_icmp .ge 41, 3) := by decide +kernel
theorem dX4_react_14 : decode cX4_react 14 = .ok (.aload_n 0, 1) := by decide +kernel
theorem dX4_react_15 : decode cX4_react 15 = .ok (.getfield 7, 3) := by decide +kernel
theorem dX4_react_18 : decode cX4_react 18 = .ok (.sipush 195, 3) := by decide +kernel
theorem dX4_react_21 : decode cX4_react 21 = .ok (.iload_n 2, 1) := by decide +kernel
theorem dX4_react_22 : decode cX4_react 22 = .ok (.iadd, 1) := by decide +kernel
theorem dX4_react_23 : decode cX4_react 23 = .ok (.iaload, 1) := by decide +kernel
theorem dX4_react_24 : decode cX4_react 24 = .ok (.aload_n 0, 1) := by decide +kernel
theorem dX4_react_25 : decode cX4_react 25 = .ok (.getfield 7, 3) := by decide +kernel
theorem dX4_react_28 : decode cX4_react 28 = .ok (.iconst 0, 1) := by decide +kernel
theorem dX4_react_29 : decode cX4_react 29 = .ok (.iaload, 1) := by decide +kernel
theorem dX4_react_30 : decode cX4_react 30 = .ok (.if_icmp .lt 16, 3) := by decide +kernel
theorem dX4_react_33 : decode cX4_react 33 = .ok (.aload_n 0, 1) := by decide +kernel
theorem dX4_react_34 : decode cX4_react 34 = .ok (.iload_n 2, 1) := by decide +kernel
theorem dX4_react_35 : decode cX4_react 35 = .ok (.invokevirtual 70, 3) := by decide +kernel
theorem dX4_react_38 : decode cX4_react 38 = .ok (.iinc 1 1, 3) := by decide +kernel
theorem dX4_react_41 : decode cX4_react 41 = .ok (.iconst 0, 1) := by decide +kernel
theorem dX4_react_42 : decode cX4_react 42 = .ok (.istore_n 2, 1) := by decide +kernel
theorem dX4_react_43 : decode cX4_react 43 = .ok (.goto (-39), 3) := by decide +kernel
theorem dX4_react_46 : decode cX4_react 46 = .ok (.iinc 2 1, 3) := by decide +kernel
theorem dX4_react_49 : decode cX4_react 49 = .ok (.goto (-45), 3) := by decide +kernel
theorem dX4_react_52 : decode cX4_react 52 = .ok (.iload_n 1, 1) := by decide +kernel
theorem dX4_react_53 : decode cX4_react 53 = .ok (.ireturn, 1) := by decide +kernel
theorem dX4_removeStory_0 : decode cX4_removeStory 0 = .ok (.aload_n 0, 1) := by decide +kernel
theorem dX4_removeStory_1 : decode cX4_removeStory 1 = .ok (.getfield 7, 3) := by decide +kernel
theorem dX4_removeStory_4 : decode cX4_removeStory 4 = .ok (.iconst 3, 1) := by decide +kernel
theorem dX4_removeStory_5 : decode cX4_removeStory 5 = .ok (.dup2, 1) := by decide +kernel
theorem dX4_removeStory_6 : decode cX4_removeStory 6 = .ok (.iaload, 1) := by decide +kernel
theorem dX4_removeStory_7 : decode cX4_removeStory 7 = .ok (.iconst 1, 1) := by decide +kernel
theorem dX4_removeStory_8 : decode cX4_removeStory 8 = .ok (.isub, 1) := by decide +kernel
theorem dX4_removeStory_9 : decode cX4_removeStory 9 = .ok (.iastore, 1) := by decide +kernel
theorem dX4_removeStory_10 : decode cX4_removeStory 10 = .ok (.iload_n 1, 1) := by decide +kernel
theorem dX4_removeStory_11 : decode cX4_removeStory 11 = .ok (.istore_n 2, 1) := by decide +kernel
theorem dX4_removeStory_12 : decode cX4_removeStory 12 = .ok (.iload_n 2, 1) := by decide +kernel
theorem dX4_removeStory_13 : decode cX4_removeStory 13 = .ok (.aload_n 0, 1) := by decide +kernel
theorem dX4_removeStory_14 : decode cX4_removeStory 14 = .ok (.getfield 7, 3) := by decide +kernel
theorem dX4_removeStory_17 : decode cX4_removeStory 17 = .ok (.iconst 3, 1) := by decide +kernel
theorem dX4_removeStory_18 : decode cX4_removeStory 18 = .ok (.iaload, 1) := by decide +kernel
theorem dX4_removeStory_19 : decode cX4_removeStory 19 = .ok (.if_icmp .ge 69, 3) := by decide +kernel
theorem dX4_removeStory_22 : decode cX4_removeStory 22 = .ok (.aload_n 0, 1) := by decide +kernel
theorem dX4_removeStory_23 : decode cX4_removeStory 23 = .ok (.getfield 7, 3) := by decide +kernel
theorem dX4_removeStory_26 : decode cX4_removeStory 26 = .ok (.bipush 9, 2) := by decide +kernel
theorem dX4_removeStory_28 : decode cX4_removeStory 28 = .ok (.iload_n 2, 1) := by decide +kernel
theorem dX4_removeStory_29 : decode cX4_removeStory 29 = .ok (.iadd, 1) := by decide +kernel
theorem dX4_removeStory_30 : decode cX4_removeStory 30 = .ok (.aload_n 0, 1) := by decide +kernel
theorem dX4_removeStory_31 : decode cX4_removeStory 31 = .ok (.getfield 7, 3) := by decide +kernel
theorem dX4_removeStory_34 : decode cX4_removeStory 34 = .ok (.bipush 9, 2) := by decide +kernel
theorem dX4_removeStory_36 : decode cX4_removeStory 36 = .ok (.iload_n 2, 1) := by decide +kernel
theorem dX4_removeStory_37 : decode cX4_removeStory 37 = .ok (.iadd, 1) := by decide +kernel
theorem dX4_removeStory_38 : decode cX4_removeStory 38 = .ok (.iconst 1, 1) := by decide +kernel
theorem dX4_removeStory_39 : decode cX4_removeStory 39 = .ok (.iadd, 1) := by decide +kernel
theorem dX4_removeStory_40 : decode cX4_removeStory 40 = .ok (.iaload, 1) := by decide +kernel
theorem dX4_removeStory_41 : decode cX4_removeStory 41 = .ok (.iastore, 1) := by decide +kernel
theorem dX4_removeStory_42 : decode cX4_removeStory 42 = .ok (.aload_n 0, 1) := by decide +kernel
theorem dX4_removeStory_43 : decode cX4_removeStory 43 = .ok (.getfield 7, 3) := by decide +kernel
theorem dX4_removeStory_46 : decode cX4_removeStory 46 = .ok (.bipush 21, 2) := by decide +kernel
theorem dX4_removeStory_48 : decode cX4_removeStory 48 = .ok (.iload_n 2, 1) := by decide +kernel
theorem dX4_removeStory_49 : decode cX4_removeStory 49 = .ok (.iadd, 1) := by decide +kernel
theorem dX4_removeStory_50 : decode cX4_removeStory 50 = .ok (.aload_n 0, 1) := by decide +kernel
theorem dX4_removeStory_51 : decode cX4_removeStory 51 = .ok (.getfield 7, 3) := by decide +kernel
theorem dX4_removeStory_54 : decode cX4_removeStory 54 = .ok (.bipush 21, 2) := by decide +kernel
theorem dX4_removeStory_56 : decode cX4_removeStory 56 = .ok (.iload_n 2, 1) := by decide +kernel
theorem dX4_removeStory_57 : decode cX4_removeStory 57 = .ok (.iadd, 1) := by decide +kernel
theorem dX4_removeStory_58 : decode cX4_removeStory 58 = .ok (.iconst 1, 1) := by decide +kernel
theorem dX4_removeStory_59 : decode cX4_removeStory 59 = .ok (.iadd, 1) := by decide +kernel
theorem dX4_removeStory_60 : decode cX4_removeStory 60 = .ok (.iaload, 1) := by decide +kernel
theorem dX4_removeStory_61 : decode cX4_removeStory 61 = .ok (.iastore, 1) := by decide +kernel
theorem dX4_removeStory_62 : decode cX4_removeStory 62 = .ok (.aload_n 0, 1) := by decide +kernel
theorem dX4_removeStory_63 : decode cX4_removeStory 63 = .ok (.getfield 7, 3) := by decide +kernel
theorem dX4_removeStory_66 : decode cX4_removeStory 66 = .ok (.bipush 33, 2) := by decide +kernel
theorem dX4_removeStory_68 : decode cX4_removeStory 68 = .ok (.iload_n 2, 1) := by decide +kernel
theorem dX4_removeStory_69 : decode cX4_removeStory 69 = .ok (.iadd, 1) := by decide +kernel
theorem dX4_removeStory_70 : decode cX4_removeStory 70 = .ok (.aload_n 0, 1) := by decide +kernel
theorem dX4_removeStory_71 : decode cX4_removeStory 71 = .ok (.getfield 7, 3) := by decide +kernel
theorem dX4_removeStory_74 : decode cX4_removeStory 74 = .ok (.bipush 33, 2) := by decide +kernel
theorem dX4_removeStory_76 : decode cX4_removeStory 76 = .ok (.iload_n 2, 1) := by decide +kernel
theorem dX4_removeStory_77 : decode cX4_removeStory 77 = .ok (.iadd, 1) := by decide +kernel
theorem dX4_removeStory_78 : decode cX4_removeStory 78 = .ok (.iconst 1, 1) := by decide +kernel
theorem dX4_removeStory_79 : decode cX4_removeStory 79 = .ok (.iadd, 1) := by decide +kernel
theorem dX4_removeStory_80 : decode cX4_removeStory 80 = .ok (.iaload, 1) := by decide +kernel
theorem dX4_removeStory_81 : decode cX4_removeStory 81 = .ok (.iastore, 1) := by decide +kernel
theorem dX4_removeStory_82 : decode cX4_removeStory 82 = .ok (.iinc 2 1, 3) := by decide +kernel
theorem dX4_removeStory_85 : decode cX4_removeStory 85 = .ok (.goto (-73), 3) := by decide +kernel
theorem dX4_removeStory_88 : decode cX4_removeStory 88 = .ok (.return_, 1) := by decide +kernel
theorem dX4_removeWords_0 : decode cX4_removeWords 0 = .ok (.aload_n 0, 1) := by decide +kernel
theorem dX4_removeWords_1 : decode cX4_removeWords 1 = .ok (.getfield 7, 3) := by decide +kernel
theorem dX4_removeWords_4 : decode cX4_removeWords 4 = .ok (.iconst 4, 1) := by decide +kernel
theorem dX4_removeWords_5 : decode cX4_removeWords 5 = .ok (.dup2, 1) := by decide +kernel
theorem dX4_removeWords_6 : decode cX4_removeWords 6 = .ok (.iaload, 1) := by decide +kernel
theorem dX4_removeWords_7 : decode cX4_removeWords 7 = .ok (.iload_n 2, 1) := by decide +kernel
theorem dX4_removeWords_8 : decode cX4_removeWords 8 = .ok (.isub, 1) := by decide +kernel
theorem dX4_removeWords_9 : decode cX4_removeWords 9 = .ok (.iastore, 1) := by decide +kernel
theorem dX4_removeWords_10 : decode cX4_removeWords 10 = .ok (.iload_n 1, 1) := by decide +kernel
theorem dX4_removeWords_11 : decode cX4_removeWords 11 = .ok (.istore_n 3, 1) := by decide +kernel
theorem dX4_removeWords_12 : decode cX4_removeWords 12 = .ok (.iload_n 3, 1) := by decide +kernel
theorem dX4_removeWords_13 : decode cX4_removeWords 13 = .ok (.aload_n 0, 1) := by decide +kernel
theorem dX4_removeWords_14 : decode cX4_removeWords 14 = .ok (.getfield 7, 3) := by decide +kernel
theorem dX4_removeWords_17 : decode cX4_removeWords 17 = .ok (.iconst 4, 1) := by decide +kernel
theorem dX4_removeWords_18 : decode cX4_removeWords 18 = .ok (.iaload, 1) := by decide +kernel
theorem dX4_removeWords_19 : decode cX4_removeWords 19 = .ok (.if_icmp .ge 51, 3) := by decide +kernel
theorem dX4_removeWords_22 : decode cX4_removeWords 22 = .ok (.aload_n 0, 1) := by decide +kernel
theorem dX4_removeWords_23 : decode cX4_removeWords 23 = .ok (.getfield 7, 3) := by decide +kernel
theorem dX4_removeWords_26 : decode cX4_removeWords 26 = .ok (.bipush 45, 2) := by decide +kernel
theorem dX4_removeWords_28 : decode cX4_removeWords 28 = .ok (.iload_n 3, 1) := by decide +kernel
theorem dX4_removeWords_29 : decode cX4_removeWords 29 = .ok (.iadd, 1) := by decide +kernel
theorem dX4_removeWords_30 : decode cX4_removeWords 30 = .ok (.aload_n 0, 1) := by decide +kernel
theorem dX4_removeWords_31 : decode cX4_removeWords 31 = .ok (.getfield 7, 3) := by decide +kernel
theorem dX4_removeWords_34 : decode cX4_removeWords 34 = .ok (.bipush 45, 2) := by decide +kernel
theorem dX4_removeWords_36 : decode cX4_removeWords 36 = .ok (.iload_n 3, 1) := by decide +kernel
theorem dX4_removeWords_37 : decode cX4_removeWords 37 = .ok (.iadd, 1) := by decide +kernel
theorem dX4_removeWords_38 : decode cX4_removeWords 38 = .ok (.iload_n 2, 1) := by decide +kernel
theorem dX4_removeWords_39 : decode cX4_removeWords 39 = .ok (.iadd, 1) := by decide +kernel
theorem dX4_removeWords_40 : decode cX4_removeWords 40 = .ok (.iaload, 1) := by decide +kernel
theorem dX4_removeWords_41 : decode cX4_removeWords 41 = .ok (.iastore, 1) := by decide +kernel
theorem dX4_removeWords_42 : decode cX4_removeWords 42 = .ok (.aload_n 0, 1) := by decide +kernel
theorem dX4_removeWords_43 : decode cX4_removeWords 43 = .ok (.getfield 7, 3) := by decide +kernel
theorem dX4_removeWords_46 : decode cX4_removeWords 46 = .ok (.sipush 195, 3) := by decide +kernel
theorem dX4_removeWords_49 : decode cX4_removeWords 49 = .ok (.iload_n 3, 1) := by decide +kernel
theorem dX4_removeWords_50 : decode cX4_removeWords 50 = .ok (.iadd, 1) := by decide +kernel
theorem dX4_removeWords_51 : decode cX4_removeWords 51 = .ok (.aload_n 0, 1) := by decide +kernel
theorem dX4_removeWords_52 : decode cX4_removeWords 52 = .ok (.getfield 7, 3) := by decide +kernel
theorem dX4_removeWords_55 : decode cX4_removeWords 55 = .ok (.sipush 195, 3) := by decide +kernel
theorem dX4_removeWords_58 : decode cX4_removeWords 58 = .ok (.iload_n 3, 1) := by decide +kernel
theorem dX4_removeWords_59 : decode cX4_removeWords 59 = .ok (.iadd, 1) := by decide +kernel
theorem dX4_removeWords_60 : decode cX4_removeWords 60 = .ok (.iload_n 2, 1) := by decide +kernel
theorem dX4_removeWords_61 : decode cX4_removeWords 61 = .ok (.iadd, 1) := by decide +kernel
theorem dX4_removeWords_62 : decode cX4_removeWords 62 = .ok (.iaload, 1) := by decide +kernel
theorem dX4_removeWords_63 : decode cX4_removeWords 63 = .ok (.iastore, 1) := by decide +kernel
theorem dX4_removeWords_64 : decode cX4_removeWords 64 = .ok (.iinc 3 1, 3) := by decide +kernel
theorem dX4_removeWords_67 : decode cX4_removeWords 67 = .ok (.goto (-55), 3) := by decide +kernel
theorem dX4_removeWords_70 : decode cX4_removeWords 70 = .ok (.return_, 1) := by decide +kernel
theorem dX4_times_0 : decode cX4_times 0 = .ok (.iconst 0, 1) := by decide +kernel
theorem dX4_times_1 : decode cX4_times 1 = .ok (.istore_n 3, 1) := by decide +kernel
theorem dX4_times_2 : decode cX4_times 2 = .ok (.iconst 0, 1) := by decide +kernel
theorem dX4_times_3 : decode cX4_times 3 = .ok (.istore 4, 2) := by decide +kernel
theorem dX4_times_5 : decode cX4_times 5 = .ok (.iload 4, 2) := by decide +kernel
theorem dX4_times_7 : decode cX4_times 7 = .ok (.aload_n 0, 1) := by decide +kernel
theorem dX4_times_8 : decode cX4_times 8 = .ok (.getfield 7, 3) := by decide +kernel
theorem dX4_times_11 : decode cX4_times 11 = .ok (.bipush 9, 2) := by decide +kernel
theorem dX4_times_13 : decode cX4_times 13 = .ok (.iload_n 1, 1) := by decide +kernel
theorem dX4_times_14 : decode cX4_times 14 = .ok (.iadd, 1) := by decide +kernel
theorem dX4_times_15 : decode cX4_times 15 = .ok (.iaload, 1) := by decide +kernel
theorem dX4_times_16 : decode cX4_times 16 = .ok (.if_icmp .ge 37, 3) := by decide +kernel
theorem dX4_times_19 : decode cX4_times 19 = .ok (.iload_n 3, 1) := by decide +kernel
theorem dX4_times_20 : decode cX4_times 20 = .ok (.aload_n 0, 1) := by decide +kernel
theorem dX4_times_21 : decode cX4_times 21 = .ok (.getfield 7, 3) := by decide +kernel
theorem dX4_times_24 : decode cX4_times 24 = .ok (.bipush 45, 2) := by decide +kernel
theorem dX4_times_26 : decode cX4_times 26 = .ok (.aload_n 0, 1) := by decide +kernel
theorem dX4_times_27 : decode cX4_times 27 = .ok (.iload_n 1, 1) := by decide +kernel
theorem dX4_times_28 : decode cX4_times 28 = .ok (.invokevirtual 60, 3) := by decide +kernel
theorem dX4_times_31 : decode cX4_times 31 = .ok (.iadd, 1) := by decide +kernel
theorem dX4_times_32 : decode cX4_times 32 = .ok (.iload 4, 2) := by decide +kernel
theorem dX4_times_34 : decode cX4_times 34 = .ok (.iadd, 1) := by decide +kernel
theorem dX4_times_35 : decode cX4_times 35 = .ok (.iaload, 1) := by decide +kernel
theorem dX4_times_36 : decode cX4_times 36 = .ok (.iload_n 2, 1) := by decide +kernel
theorem dX4_times_37 : decode cX4_times 37 = .ok (.if_icmp .ne 7, 3) := by decide +kernel
theorem dX4_times_40 : decode cX4_times 40 = .ok (.iconst 1, 1) := by decide +kernel
theorem dX4_times_41 : decode cX4_times 41 = .ok (.goto 4, 3) := by decide +kernel
theorem dX4_times_44 : decode cX4_times 44 = .ok (.iconst 0, 1) := by decide +kernel
theorem dX4_times_45 : decode cX4_times 45 = .ok (.iadd, 1) := by decide +kernel
theorem dX4_times_46 : decode cX4_times 46 = .ok (.istore_n 3, 1) := by decide +kernel
theorem dX4_times_47 : decode cX4_times 47 = .ok (.iinc 4 1, 3) := by decide +kernel
theorem dX4_times_50 : decode cX4_times 50 = .ok (.goto (-45), 3) := by decide +kernel
theorem dX4_times_53 : decode cX4_times 53 = .ok (.iload_n 3, 1) := by decide +kernel
theorem dX4_times_54 : decode cX4_times 54 = .ok (.ireturn, 1) := by decide +kernel
theorem dX4_theme_0 : decode cX4_theme 0 = .ok (.iconst 0, 1) := by decide +kernel
theorem dX4_theme_1 : decode cX4_theme 1 = .ok (.istore_n 2, 1) := by decide +kernel
theorem dX4_theme_2 : decode cX4_theme 2 = .ok (.iconst 1, 1) := by decide +kernel
theorem dX4_theme_3 : decode cX4_theme 3 = .ok (.istore_n 3, 1) := by decide +kernel
theorem dX4_theme_4 : decode cX4_theme 4 = .ok (.iload_n 3, 1) := by decide +kernel
theorem dX4_theme_5 : decode cX4_theme 5 = .ok (.bipush 26, 2) := by decide +kernel
theorem dX4_theme_7 : decode cX4_theme 7 = .ok (.if_icmp .ge 30, 3) := by decide +kernel
theorem dX4_theme_10 : decode cX4_theme 10 = .ok (.aload_n 0, 1) := by decide +kernel
theorem dX4_theme_11 : decode cX4_theme 11 = .ok (.iload_n 1, 1) := by decide +kernel
theorem dX4_theme_12 : decode cX4_theme 12 = .ok (.iload_n 3, 1) := by decide +kernel
theorem dX4_theme_13 : decode cX4_theme 13 = .ok (.invokevirtual 74, 3) := by decide +kernel
theorem dX4_theme_16 : decode cX4_theme 16 = .ok (.aload_n 0, 1) := by decide +kernel
theorem dX4_theme_17 : decode cX4_theme 17 = .ok (.iload_n 1, 1) := by decide +kernel
theorem dX4_theme_18 : decode cX4_theme 18 = .ok (.iload_n 2, 1) := by decide +kernel
theorem dX4_theme_19 : decode cX4_theme 19 = .ok (.invokevirtual 74, 3) := by decide +kernel
theorem dX4_theme_22 : decode cX4_theme 22 = .ok (.if_icmp .le 7, 3) := by decide +kernel
theorem dX4_theme_25 : decode cX4_theme 25 = .ok (.iload_n 3, 1) := by decide +kernel
theorem dX4_theme_26 : decode cX4_theme 26 = .ok (.goto 4, 3) := by decide +kernel
theorem dX4_theme_29 : decode cX4_theme 29 = .ok (.iload_n 2, 1) := by decide +kernel
theorem dX4_theme_30 : decode cX4_theme 30 = .ok (.istore_n 2, 1) := by decide +kernel
theorem dX4_theme_31 : decode cX4_theme 31 = .ok (.iinc 3 1, 3) := by decide +kernel
theorem dX4_theme_34 : decode cX4_theme 34 = .ok (.goto (-30), 3) := by decide +kernel
theorem dX4_theme_37 : decode cX4_theme 37 = .ok (.iload_n 2, 1) := by decide +kernel
theorem dX4_theme_38 : decode cX4_theme 38 = .ok (.ireturn, 1) := by decide +kernel
theorem dX4_heatOf_0 : decode cX4_heatOf 0 = .ok (.iconst 0, 1) := by decide +kernel
theorem dX4_heatOf_1 : decode cX4_heatOf 1 = .ok (.istore_n 2, 1) := by decide +kernel
theorem dX4_heatOf_2 : decode cX4_heatOf 2 = .ok (.iconst 0, 1) := by decide +kernel
theorem dX4_heatOf_3 : decode cX4_heatOf 3 = .ok (.istore_n 3, 1) := by decide +kernel
theorem dX4_heatOf_4 : decode cX4_heatOf 4 = .ok (.iload_n 3, 1) := by decide +kernel
theorem dX4_heatOf_5 : decode cX4_heatOf 5 = .ok (.aload_n 0, 1) := by decide +kernel
theorem dX4_heatOf_6 : decode cX4_heatOf 6 = .ok (.getfield 7, 3) := by decide +kernel
theorem dX4_heatOf_9 : decode cX4_heatOf 9 = .ok (.bipush 9, 2) := by decide +kernel
theorem dX4_heatOf_11 : decode cX4_heatOf 11 = .ok (.iload_n 1, 1) := by decide +kernel
theorem dX4_heatOf_12 : decode cX4_heatOf 12 = .ok (.iadd, 1) := by decide +kernel
theorem dX4_heatOf_13 : decode cX4_heatOf 13 = .ok (.iaload, 1) := by decide +kernel
theorem dX4_heatOf_14 : decode cX4_heatOf 14 = .ok (.if_icmp .ge 28, 3) := by decide +kernel
theorem dX4_heatOf_17 : decode cX4_heatOf 17 = .ok (.iload_n 2, 1) := by decide +kernel
theorem dX4_heatOf_18 : decode cX4_heatOf 18 = .ok (.aload_n 0, 1) := by decide +kernel
theorem dX4_heatOf_19 : decode cX4_heatOf 19 = .ok (.getfield 7, 3) := by decide +kernel
theorem dX4_heatOf_22 : decode cX4_heatOf 22 = .ok (.sipush 195, 3) := by decide +kernel
theorem dX4_heatOf_25 : decode cX4_heatOf 25 = .ok (.aload_n 0, 1) := by decide +kernel
theorem dX4_heatOf_26 : decode cX4_heatOf 26 = .ok (.iload_n 1, 1) := by decide +kernel
theorem dX4_heatOf_27 : decode cX4_heatOf 27 = .ok (.invokevirtual 60, 3) := by decide +kernel
theorem dX4_heatOf_30 : decode cX4_heatOf 30 = .ok (.iadd, 1) := by decide +kernel
theorem dX4_heatOf_31 : decode cX4_heatOf 31 = .ok (.iload_n 3, 1) := by decide +kernel
theorem dX4_heatOf_32 : decode cX4_heatOf 32 = .ok (.iadd, 1) := by decide +kernel
theorem dX4_heatOf_33 : decode cX4_heatOf 33 = .ok (.iaload, 1) := by decide +kernel
theorem dX4_heatOf_34 : decode cX4_heatOf 34 = .ok (.iadd, 1) := by decide +kernel
theorem dX4_heatOf_35 : decode cX4_heatOf 35 = .ok (.istore_n 2, 1) := by decide +kernel
theorem dX4_heatOf_36 : decode cX4_heatOf 36 = .ok (.iinc 3 1, 3) := by decide +kernel
theorem dX4_heatOf_39 : decode cX4_heatOf 39 = .ok (.goto (-35), 3) := by decide +kernel
theorem dX4_heatOf_42 : decode cX4_heatOf 42 = .ok (.iload_n 2, 1) := by decide +kernel
theorem dX4_heatOf_43 : decode cX4_heatOf 43 = .ok (.ireturn, 1) := by decide +kernel
theorem dX4_allHeat_0 : decode cX4_allHeat 0 = .ok (.iconst 0, 1) := by decide +kernel
theorem dX4_allHeat_1 : decode cX4_allHeat 1 = .ok (.istore_n 1, 1) := by decide +kernel
theorem dX4_allHeat_2 : decode cX4_allHeat 2 = .ok (.iconst 0, 1) := by decide +kernel
theorem dX4_allHeat_3 : decode cX4_allHeat 3 = .ok (.istore_n 2, 1) := by decide +kernel
theorem dX4_allHeat_4 : decode cX4_allHeat 4 = .ok (.iload_n 2, 1) := by decide +kernel
theorem dX4_allHeat_5 : decode cX4_allHeat 5 = .ok (.aload_n 0, 1) := by decide +kernel
theorem dX4_allHeat_6 : decode cX4_allHeat 6 = .ok (.getfield 7, 3) := by decide +kernel
theorem dX4_allHeat_9 : decode cX4_allHeat 9 = .ok (.iconst 4, 1) := by decide +kernel
theorem dX4_allHeat_10 : decode cX4_allHeat 10 = .ok (.iaload, 1) := by decide +kernel
theorem dX4_allHeat_11 : decode cX4_allHeat 11 = .ok (.if_icmp .ge 22, 3) := by decide +kernel
theorem dX4_allHeat_14 : decode cX4_allHeat 14 = .ok (.iload_n 1, 1) := by decide +kernel
theorem dX4_allHeat_15 : decode cX4_allHeat 15 = .ok (.aload_n 0, 1) := by decide +kernel
theorem dX4_allHeat_16 : decode cX4_allHeat 16 = .ok (.getfield 7, 3) := by decide +kernel
theorem dX4_allHeat_19 : decode cX4_allHeat 19 = .ok (.sipush 195, 3) := by decide +kernel
theorem dX4_allHeat_22 : decode cX4_allHeat 22 = .ok (.iload_n 2, 1) := by decide +kernel
theorem dX4_allHeat_23 : decode cX4_allHeat 23 = .ok (.iadd, 1) := by decide +kernel
theorem dX4_allHeat_24 : decode cX4_allHeat 24 = .ok (.iaload, 1) := by decide +kernel
theorem dX4_allHeat_25 : decode cX4_allHeat 25 = .ok (.iadd, 1) := by decide +kernel
theorem dX4_allHeat_26 : decode cX4_allHeat 26 = .ok (.istore_n 1, 1) := by decide +kernel
theorem dX4_allHeat_27 : decode cX4_allHeat 27 = .ok (.iinc 2 1, 3) := by decide +kernel
theorem dX4_allHeat_30 : decode cX4_allHeat 30 = .ok (.goto (-26), 3) := by decide +kernel
theorem dX4_allHeat_33 : decode cX4_allHeat 33 = .ok (.iload_n 1, 1) := by decide +kernel
theorem dX4_allHeat_34 : decode cX4_allHeat 34 = .ok (.ireturn, 1) := by decide +kernel
theorem dX4_set_0 : decode cX4_set 0 = .ok (.iload_n 1, 1) := by decide +kernel
theorem dX4_set_1 : decode cX4_set 1 = .ok (.ifCond .ne 8, 3) := by decide +kernel
theorem dX4_set_4 : decode cX4_set 4 = .ok (.bipush 10, 2) := by decide +kernel
theorem dX4_set_6 : decode cX4_set 6 = .ok (.goto 4, 3) := by decide +kernel
theorem dX4_set_9 : decode cX4_set 9 = .ok (.iconst 0, 1) := by decide +kernel
theorem dX4_set_10 : decode cX4_set 10 = .ok (.istore_n 3, 1) := by decide +kernel
theorem dX4_set_11 : decode cX4_set 11 = .ok (.iload_n 1, 1) := by decide +kernel
theorem dX4_set_12 : decode cX4_set 12 = .ok (.ifCond .ne 8, 3) := by decide +kernel
theorem dX4_set_15 : decode cX4_set 15 = .ok (.bipush 99, 2) := by decide +kernel
theorem dX4_set_17 : decode cX4_set 17 = .ok (.goto 14, 3) := by decide +kernel
theorem dX4_set_20 : decode cX4_set 20 = .ok (.iload_n 1, 1) := by decide +kernel
theorem dX4_set_21 : decode cX4_set 21 = .ok (.iconst 1, 1) := by decide +kernel
theorem dX4_set_22 : decode cX4_set 22 = .ok (.if_icmp .ne 7, 3) := by decide +kernel
theorem dX4_set_25 : decode cX4_set 25 = .ok (.iconst 4, 1) := by decide +kernel
theorem dX4_set_26 : decode cX4_set 26 = .ok (.goto 5, 3) := by decide +kernel
theorem dX4_set_29 : decode cX4_set 29 = .ok (.bipush 20, 2) := by decide +kernel
theorem dX4_set_31 : decode cX4_set 31 = .ok (.istore 4, 2) := by decide +kernel
theorem dX4_set_33 : decode cX4_set 33 = .ok (.iload_n 1, 1) := by decide +kernel
theorem dX4_set_34 : decode cX4_set 34 = .ok (.iconst 0, 1) := by decide +kernel
theorem dX4_set_35 : decode cX4_set 35 = .ok (.iconst 2, 1) := by decide +kernel
theorem dX4_set_36 : decode cX4_set 36 = .ok (.invokestatic 44, 3) := by decide +kernel
theorem dX4_set_39 : decode cX4_set 39 = .ok (.ifCond .eq 13, 3) := by decide +kernel
theorem dX4_set_42 : decode cX4_set 42 = .ok (.iload_n 2, 1) := by decide +kernel
theorem dX4_set_43 : decode cX4_set 43 = .ok (.iload_n 3, 1) := by decide +kernel
theorem dX4_set_44 : decode cX4_set 44 = .ok (.iload 4, 2) := by decide +kernel
theorem dX4_set_46 : decode cX4_set 46 = .ok (.invokestatic 44, 3) := by decide +kernel
theorem dX4_set_49 : decode cX4_set 49 = .ok (.ifCond .ne 6, 3) := by decide +kernel
theorem dX4_set_52 : decode cX4_set 52 = .ok (.bipush (-2), 2) := by decide +kernel
theorem dX4_set_54 : decode cX4_set 54 = .ok (.ireturn, 1) := by decide +kernel
theorem dX4_set_55 : decode cX4_set 55 = .ok (.aload_n 0, 1) := by decide +kernel
theorem dX4_set_56 : decode cX4_set 56 = .ok (.invokevirtual 78, 3) := by decide +kernel
theorem dX4_set_59 : decode cX4_set 59 = .ok (.aload_n 0, 1) := by decide +kernel
theorem dX4_set_60 : decode cX4_set 60 = .ok (.getfield 7, 3) := by decide +kernel
theorem dX4_set_63 : decode cX4_set 63 = .ok (.iconst 0, 1) := by decide +kernel
theorem dX4_set_64 : decode cX4_set 64 = .ok (.iload_n 1, 1) := by decide +kernel
theorem dX4_set_65 : decode cX4_set 65 = .ok (.iadd, 1) := by decide +kernel
theorem dX4_set_66 : decode cX4_set 66 = .ok (.iaload, 1) := by decide +kernel
theorem dX4_set_67 : decode cX4_set 67 = .ok (.istore 5, 2) := by decide +kernel
theorem dX4_set_69 : decode cX4_set 69 = .ok (.aload_n 0, 1) := by decide +kernel
theorem dX4_set_70 : decode cX4_set 70 = .ok (.getfield 7, 3) := by decide +kernel
theorem dX4_set_73 : decode cX4_set 73 = .ok (.iconst 0, 1) := by decide +kernel
theorem dX4_set_74 : decode cX4_set 74 = .ok (.iload_n 1, 1) := by decide +kernel
theorem dX4_set_75 : decode cX4_set 75 = .ok (.iadd, 1) := by decide +kernel
theorem dX4_set_76 : decode cX4_set 76 = .ok (.iload_n 2, 1) := by decide +kernel
theorem dX4_set_77 : decode cX4_set 77 = .ok (.iastore, 1) := by decide +kernel
theorem dX4_set_78 : decode cX4_set 78 = .ok (.iload 5, 2) := by decide +kernel
theorem dX4_set_80 : decode cX4_set 80 = .ok (.ireturn, 1) := by decide +kernel
theorem dX4_heat_0 : decode cX4_heat 0 = .ok (.aload_n 0, 1) := by decide +kernel
theorem dX4_heat_1 : decode cX4_heat 1 = .ok (.iload_n 1, 1) := by decide +kernel
theorem dX4_heat_2 : decode cX4_heat 2 = .ok (.iload_n 2, 1) := by decide +kernel
theorem dX4_heat_3 : decode cX4_heat 3 = .ok (.invokevirtual 81, 3) := by decide +kernel
theorem dX4_heat_6 : decode cX4_heat 6 = .ok (.ifCond .ne 5, 3) := by decide +kernel
theorem dX4_heat_9 : decode cX4_heat 9 = .ok (.iconst (-1), 1) := by decide +kernel
theorem dX4_heat_10 : decode cX4_heat 10 = .ok (.ireturn, 1) := by decide +kernel
theorem dX4_heat_11 : decode cX4_heat 11 = .ok (.iload_n 3, 1) := by decide +kernel
theorem dX4_heat_12 : decode cX4_heat 12 = .ok (.iconst 1, 1) := by decide +kernel
theorem dX4_heat_13 : decode cX4_heat 13 = .ok (.sipush 500, 3) := by decide +kernel
theorem dX4_heat_16 : decode cX4_heat 16 = .ok (.invokestatic 44, 3) := by decide +kernel
theorem dX4_heat_19 : decode cX4_heat 19 = .ok (.ifCond .ne 6, 3) := by decide +kernel
theorem dX4_heat_22 : decode cX4_heat 22 = .ok (.bipush (-2), 2) := by decide +kernel
theorem dX4_heat_24 : decode cX4_heat 24 = .ok (.ireturn, 1) := by decide +kernel
theorem dX4_heat_25 : decode cX4_heat 25 = .ok (.aload_n 0, 1) := by decide +kernel
theorem dX4_heat_26 : decode cX4_heat 26 = .ok (.invokevirtual 78, 3) := by decide +kernel
theorem dX4_heat_29 : decode cX4_heat 29 = .ok (.aload_n 0, 1) := by decide +kernel
theorem dX4_heat_30 : decode cX4_heat 30 = .ok (.aload_n 0, 1) := by decide +kernel
theorem dX4_heat_31 : decode cX4_heat 31 = .ok (.iload_n 1, 1) := by decide +kernel
theorem dX4_heat_32 : decode cX4_heat 32 = .ok (.invokevirtual 60, 3) := by decide +kernel
theorem dX4_heat_35 : decode cX4_heat 35 = .ok (.iload_n 2, 1) := by decide +kernel
theorem dX4_heat_36 : decode cX4_heat 36 = .ok (.iadd, 1) := by decide +kernel
theorem dX4_heat_37 : decode cX4_heat 37 = .ok (.iload_n 3, 1) := by decide +kernel
theorem dX4_heat_38 : decode cX4_heat 38 = .ok (.invokevirtual 67, 3) := by decide +kernel
theorem dX4_heat_41 : decode cX4_heat 41 = .ok (.aload_n 0, 1) := by decide +kernel
theorem dX4_heat_42 : decode cX4_heat 42 = .ok (.invokevirtual 85, 3) := by decide +kernel
theorem dX4_heat_45 : decode cX4_heat 45 = .ok (.ireturn, 1) := by decide +kernel
theorem dX4_read_0 : decode cX4_read 0 = .ok (.aload_n 0, 1) := by decide +kernel
theorem dX4_read_1 : decode cX4_read 1 = .ok (.iload_n 1, 1) := by decide +kernel
theorem dX4_read_2 : decode cX4_read 2 = .ok (.invokevirtual 48, 3) := by decide +kernel
theorem dX4_read_5 : decode cX4_read 5 = .ok (.ifCond .ne 5, 3) := by decide +kernel
theorem dX4_read_8 : decode cX4_read 8 = .ok (.iconst (-1), 1) := by decide +kernel
theorem dX4_read_9 : decode cX4_read 9 = .ok (.ireturn, 1) := by decide +kernel
theorem dX4_read_10 : decode cX4_read 10 = .ok (.iload_n 2, 1) := by decide +kernel
theorem dX4_read_11 : decode cX4_read 11 = .ok (.iconst 1, 1) := by decide +kernel
theorem dX4_read_12 : decode cX4_read 12 = .ok (.bipush 50, 2) := by decide +kernel
theorem dX4_read_14 : decode cX4_read 14 = .ok (.invokestatic 44, 3) := by decide +kernel
theorem dX4_read_17 : decode cX4_read 17 = .ok (.ifCond .ne 6, 3) := by decide +kernel
theorem dX4_read_20 : decode cX4_read 20 = .ok (.bipush (-2), 2) := by decide +kernel
theorem dX4_read_22 : decode cX4_read 22 = .ok (.ireturn, 1) := by decide +kernel
theorem dX4_read_23 : decode cX4_read 23 = .ok (.aload_n 0, 1) := by decide +kernel
theorem dX4_read_24 : decode cX4_read 24 = .ok (.invokevirtual 78, 3) := by decide +kernel
theorem dX4_read_27 : decode cX4_read 27 = .ok (.iconst 0, 1) := by decide +kernel
theorem dX4_read_28 : decode cX4_read 28 = .ok (.istore_n 3, 1) := by decide +kernel
theorem dX4_read_29 : decode cX4_read 29 = .ok (.iload_n 3, 1) := by decide +kernel
theorem dX4_read_30 : decode cX4_read 30 = .ok (.aload_n 0, 1) := by decide +kernel
theorem dX4_read_31 : decode cX4_read 31 = .ok (.getfield 7, 3) := by decide +kernel
theorem dX4_read_34 : decode cX4_read 34 = .ok (.bipush 9, 2) := by decide +kernel
theorem dX4_read_36 : decode cX4_read 36 = .ok (.iload_n 1, 1) := by decide +kernel
theorem dX4_read_37 : decode cX4_read 37 = .ok (.iadd, 1) := by decide +kernel
theorem dX4_read_38 : decode cX4_read 38 = .ok (.iaload, 1) := by decide +kernel
theorem dX4_read_39 : decode cX4_read 39 = .ok (.if_icmp .ge 21, 3) := by decide +kernel
theorem dX4_read_42 : decode cX4_read 42 = .ok (.aload_n 0, 1) := by decide +kernel
theorem dX4_read_43 : decode cX4_read 43 = .ok (.aload_n 0, 1) := by decide +kernel
theorem dX4_read_44 : decode cX4_read 44 = .ok (.iload_n 1, 1) := by decide +kernel
theorem dX4_read_45 : decode cX4_read 45 = .ok (.invokevirtual 60, 3) := by decide +kernel
theorem dX4_read_48 : decode cX4_read 48 = .ok (.iload_n 3, 1) := by decide +kernel
theorem dX4_read_49 : decode cX4_read 49 = .ok (.iadd, 1) := by decide +kernel
theorem dX4_read_50 : decode cX4_read 50 = .ok (.iload_n 2, 1) := by decide +kernel
theorem dX4_read_51 : decode cX4_read 51 = .ok (.invokevirtual 67, 3) := by decide +kernel
theorem dX4_read_54 : decode cX4_read 54 = .ok (.iinc 3 1, 3) := by decide +kernel
theorem dX4_read_57 : decode cX4_read 57 = .ok (.goto (-28), 3) := by decide +kernel
theorem dX4_read_60 : decode cX4_read 60 = .ok (.aload_n 0, 1) := by decide +kernel
theorem dX4_read_61 : decode cX4_read 61 = .ok (.invokevirtual 85, 3) := by decide +kernel
theorem dX4_read_64 : decode cX4_read 64 = .ok (.ireturn, 1) := by decide +kernel
theorem dX4_fuse_0 : decode cX4_fuse 0 = .ok (.aload_n 0, 1) := by decide +kernel
theorem dX4_fuse_1 : decode cX4_fuse 1 = .ok (.iload_n 1, 1) := by decide +kernel
theorem dX4_fuse_2 : decode cX4_fuse 2 = .ok (.invokevirtual 48, 3) := by decide +kernel
theorem dX4_fuse_5 : decode cX4_fuse 5 = .ok (.ifCond .eq 11, 3) := by decide +kernel
theorem dX4_fuse_8 : decode cX4_fuse 8 = .ok (.aload_n 0, 1) := by decide +kernel
theorem dX4_fuse_9 : decode cX4_fuse 9 = .ok (.iload_n 2, 1) := by decide +kernel
theorem dX4_fuse_10 : decode cX4_fuse 10 = .ok (.invokevirtual 48, 3) := by decide +kernel
theorem dX4_fuse_13 : decode cX4_fuse 13 = .ok (.ifCond .ne 5, 3) := by decide +kernel
theorem dX4_fuse_16 : decode cX4_fuse 16 = .ok (.iconst (-1), 1) := by decide +kernel
theorem dX4_fuse_17 : decode cX4_fuse 17 = .ok (.ireturn, 1) := by decide +kernel
theorem dX4_fuse_18 : decode cX4_fuse 18 = .ok (.iload_n 1, 1) := by decide +kernel
theorem dX4_fuse_19 : decode cX4_fuse 19 = .ok (.iload_n 2, 1) := by decide +kernel
theorem dX4_fuse_20 : decode cX4_fuse 20 = .ok (.if_icmp .ne 6, 3) := by decide +kernel
theorem dX4_fuse_23 : decode cX4_fuse 23 = .ok (.bipush (-2), 2) := by decide +kernel
theorem dX4_fuse_25 : decode cX4_fuse 25 = .ok (.ireturn, 1) := by decide +kernel
theorem dX4_fuse_26 : decode cX4_fuse 26 = .ok (.aload_n 0, 1) := by decide +kernel
theorem dX4_fuse_27 : decode cX4_fuse 27 = .ok (.iload_n 1, 1) := by decide +kernel
theorem dX4_fuse_28 : decode cX4_fuse 28 = .ok (.invokevirtual 89, 3) := by decide +kernel
theorem dX4_fuse_31 : decode cX4_fuse 31 = .ok (.aload_n 0, 1) := by decide +kernel
theorem dX4_fuse_32 : decode cX4_fuse 32 = .ok (.iload_n 2, 1) := by decide +kernel
theorem dX4_fuse_33 : decode cX4_fuse 33 = .ok (.invokevirtual 89, 3) := by decide +kernel
theorem dX4_fuse_36 : decode cX4_fuse 36 = .ok (.if_icmp .eq 6, 3) := by decide +kernel
theorem dX4_fuse_39 : decode cX4_fuse 39 = .ok (.bipush (-5), 2) := by decide +kernel
theorem dX4_fuse_41 : decode cX4_fuse 41 = .ok (.ireturn, 1) := by decide +kernel
theorem dX4_fuse_42 : decode cX4_fuse 42 = .ok (.aload_n 0, 1) := by decide +kernel
theorem dX4_fuse_43 : decode cX4_fuse 43 = .ok (.invokevirtual 78, 3) := by decide +kernel
theorem dX4_fuse_46 : decode cX4_fuse 46 = .ok (.aload_n 0, 1) := by decide +kernel
theorem dX4_fuse_47 : decode cX4_fuse 47 = .ok (.getfield 7, 3) := by decide +kernel
theorem dX4_fuse_50 : decode cX4_fuse 50 = .ok (.bipush 9, 2) := by decide +kernel
theorem dX4_fuse_52 : decode cX4_fuse 52 = .ok (.iload_n 2, 1) := by decide +kernel
theorem dX4_fuse_53 : decode cX4_fuse 53 = .ok (.iadd, 1) := by decide +kernel
theorem dX4_fuse_54 : decode cX4_fuse 54 = .ok (.iaload, 1) := by decide +kernel
theorem dX4_fuse_55 : decode cX4_fuse 55 = .ok (.istore_n 3, 1) := by decide +kernel
theorem dX4_fuse_56 : decode cX4_fuse 56 = .ok (.iconst 0, 1) := by decide +kernel
theorem dX4_fuse_57 : decode cX4_fuse 57 = .ok (.istore 4, 2) := by decide +kernel
theorem dX4_fuse_59 : decode cX4_fuse 59 = .ok (.iload 4, 2) := by decide +kernel
theorem dX4_fuse_61 : decode cX4_fuse 61 = .ok (.iload_n 3, 1) := by decide +kernel
theorem dX4_fuse_62 : decode cX4_fuse 62 = .ok (.if_icmp .ge 56, 3) := by decide +kernel
theorem dX4_fuse_65 : decode cX4_fuse 65 = .ok (.aload_n 0, 1) := by decide +kernel
theorem dX4_fuse_66 : decode cX4_fuse 66 = .ok (.getfield 29, 3) := by decide +kernel
theorem dX4_fuse_69 : decode cX4_fuse 69 = .ok (.iload 4, 2) := by decide +kernel
theorem dX4_fuse_71 : decode cX4_fuse 71 = .ok (.aload_n 0, 1) := by decide +kernel
theorem dX4_fuse_72 : decode cX4_fuse 72 = .ok (.getfield 7, 3) := by decide +kernel
theorem dX4_fuse_75 : decode cX4_fuse 75 = .ok (.bipush 45, 2) := by decide +kernel
theorem dX4_fuse_77 : decode cX4_fuse 77 = .ok (.aload_n 0, 1) := by decide +kernel
theorem dX4_fuse_78 : decode cX4_fuse 78 = .ok (.iload_n 2, 1) := by decide +kernel
theorem dX4_fuse_79 : decode cX4_fuse 79 = .ok (.invokevirtual 60, 3) := by decide +kernel
theorem dX4_fuse_82 : decode cX4_fuse 82 = .ok (.iadd, 1) := by decide +kernel
theorem dX4_fuse_83 : decode cX4_fuse 83 = .ok (.iload 4, 2) := by decide +kernel
theorem dX4_fuse_85 : decode cX4_fuse 85 = .ok (.iadd, 1) := by decide +kernel
theorem dX4_fuse_86 : decode cX4_fuse 86 = .ok (.iaload, 1) := by decide +kernel
theorem dX4_fuse_87 : decode cX4_fuse 87 = .ok (.iastore, 1) := by decide +kernel
theorem dX4_fuse_88 : decode cX4_fuse 88 = .ok (.aload_n 0, 1) := by decide +kernel
theorem dX4_fuse_89 : decode cX4_fuse 89 = .ok (.getfield 32, 3) := by decide +kernel
theorem dX4_fuse_92 : decode cX4_fuse 92 = .ok (.iload 4, 2) := by decide +kernel
theorem dX4_fuse_94 : decode cX4_fuse 94 = .ok (.aload_n 0, 1) := by decide +kernel
theorem dX4_fuse_95 : decode cX4_fuse 95 = .ok (.getfield 7, 3) := by decide +kernel
theorem dX4_fuse_98 : decode cX4_fuse 98 = .ok (.sipush 195, 3) := by decide +kernel
theorem dX4_fuse_101 : decode cX4_fuse 101 = .ok (.aload_n 0, 1) := by decide +kernel
theorem dX4_fuse_102 : decode cX4_fuse 102 = .ok (.iload_n 2, 1) := by decide +kernel
theorem dX4_fuse_103 : decode cX4_fuse 103 = .ok (.invokevirtual 60, 3) := by decide +kernel
theorem dX4_fuse_106 : decode cX4_fuse 106 = .ok (.iadd, 1) := by decide +kernel
theorem dX4_fuse_107 : decode cX4_fuse 107 = .ok (.iload 4, 2) := by decide +kernel
theorem dX4_fuse_109 : decode cX4_fuse 109 = .ok (.iadd, 1) := by decide +kernel
theorem dX4_fuse_110 : decode cX4_fuse 110 = .ok (.iaload, 1) := by decide +kernel
theorem dX4_fuse_111 : decode cX4_fuse 111 = .ok (.iastore, 1) := by decide +kernel
theorem dX4_fuse_112 : decode cX4_fuse 112 = .ok (.iinc 4 1, 3) := by decide +kernel
theorem dX4_fuse_115 : decode cX4_fuse 115 = .ok (.goto (-56), 3) := by decide +kernel
theorem dX4_fuse_118 : decode cX4_fuse 118 = .ok (.aload_n 0, 1) := by decide +kernel
theorem dX4_fuse_119 : decode cX4_fuse 119 = .ok (.getfield 7, 3) := by decide +kernel
theorem dX4_fuse_122 : decode cX4_fuse 122 = .ok (.bipush 33, 2) := by decide +kernel
theorem dX4_fuse_124 : decode cX4_fuse 124 = .ok (.iload_n 1, 1) := by decide +kernel
theorem dX4_fuse_125 : decode cX4_fuse 125 = .ok (.iadd, 1) := by decide +kernel
theorem dX4_fuse_126 : decode cX4_fuse 126 = .ok (.iaload, 1) := by decide +kernel
theorem dX4_fuse_127 : decode cX4_fuse 127 = .ok (.aload_n 0, 1) := by decide +kernel
theorem dX4_fuse_128 : decode cX4_fuse 128 = .ok (.getfield 7, 3) := by decide +kernel
theorem dX4_fuse_131 : decode cX4_fuse 131 = .ok (.bipush 33, 2) := by decide +kernel
theorem dX4_fuse_133 : decode cX4_fuse 133 = .ok (.iload_n 2, 1) := by decide +kernel
theorem dX4_fuse_134 : decode cX4_fuse 134 = .ok (.iadd, 1) := by decide +kernel
theorem dX4_fuse_135 : decode cX4_fuse 135 = .ok (.iaload, 1) := by decide +kernel
theorem dX4_fuse_136 : decode cX4_fuse 136 = .ok (.if_icmp .le 15, 3) := by decide +kernel
theorem dX4_fuse_139 : decode cX4_fuse 139 = .ok (.aload_n 0, 1) := by decide +kernel
theorem dX4_fuse_140 : decode cX4_fuse 140 = .ok (.getfield 7, 3) := by decide +kernel
theorem dX4_fuse_143 : decode cX4_fuse 143 = .ok (.bipush 33, 2) := by decide +kernel
theorem dX4_fuse_145 : decode cX4_fuse 145 = .ok (.iload_n 1, 1) := by decide +kernel
theorem dX4_fuse_146 : decode cX4_fuse 146 = .ok (.iadd, 1) := by decide +kernel
theorem dX4_fuse_147 : decode cX4_fuse 147 = .ok (.iaload, 1) := by decide +kernel
theorem dX4_fuse_148 : decode cX4_fuse 148 = .ok (.goto 12, 3) := by decide +kernel
theorem dX4_fuse_151 : decode cX4_fuse 151 = .ok (.aload_n 0, 1) := by decide +kernel
theorem dX4_fuse_152 : decode cX4_fuse 152 = .ok (.getfield 7, 3) := by decide +kernel
theorem dX4_fuse_155 : decode cX4_fuse 155 = .ok (.bipush 33, 2) := by decide +kernel
theorem dX4_fuse_157 : decode cX4_fuse 157 = .ok (.iload_n 2, 1) := by decide +kernel
theorem dX4_fuse_158 : decode cX4_fuse 158 = .ok (.iadd, 1) := by decide +kernel
theorem dX4_fuse_159 : decode cX4_fuse 159 = .ok (.iaload, 1) := by decide +kernel
theorem dX4_fuse_160 : decode cX4_fuse 160 = .ok (.istore 4, 2) := by decide +kernel
theorem dX4_fuse_162 : decode cX4_fuse 162 = .ok (.aload_n 0, 1) := by decide +kernel
theorem dX4_fuse_163 : decode cX4_fuse 163 = .ok (.aload_n 0, 1) := by decide +kernel
theorem dX4_fuse_164 : decode cX4_fuse 164 = .ok (.iload_n 2, 1) := by decide +kernel
theorem dX4_fuse_165 : decode cX4_fuse 165 = .ok (.invokevirtual 60, 3) := by decide +kernel
theorem dX4_fuse_168 : decode cX4_fuse 168 = .ok (.iload_n 3, 1) := by decide +kernel
theorem dX4_fuse_169 : decode cX4_fuse 169 = .ok (.invokevirtual 92, 3) := by decide +kernel
theorem dX4_fuse_172 : decode cX4_fuse 172 = .ok (.aload_n 0, 1) := by decide +kernel
theorem dX4_fuse_173 : decode cX4_fuse 173 = .ok (.iload_n 2, 1) := by decide +kernel
theorem dX4_fuse_174 : decode cX4_fuse 174 = .ok (.invokevirtual 95, 3) := by decide +kernel
theorem dX4_fuse_177 : decode cX4_fuse 177 = .ok (.iload_n 2, 1) := by decide +kernel
theorem dX4_fuse_178 : decode cX4_fuse 178 = .ok (.iload_n 1, 1) := by decide +kernel
theorem dX4_fuse_179 : decode cX4_fuse 179 = .ok (.if_icmp .ge 9, 3) := by decide +kernel
theorem dX4_fuse_182 : decode cX4_fuse 182 = .ok (.iload_n 1, 1) := by decide +kernel
theorem dX4_fuse_183 : decode cX4_fuse 183 = .ok (.iconst 1, 1) := by decide +kernel
theorem dX4_fuse_184 : decode cX4_fuse 184 = .ok (.isub, 1) := by decide +kernel
theorem dX4_fuse_185 : decode cX4_fuse 185 = .ok (.goto 4, 3) := by decide +kernel
theorem dX4_fuse_188 : decode cX4_fuse 188 = .ok (.iload_n 1, 1) := by decide +kernel
theorem dX4_fuse_189 : decode cX4_fuse 189 = .ok (.istore 5, 2) := by decide +kernel
theorem dX4_fuse_191 : decode cX4_fuse 191 = .ok (.aload_n 0, 1) := by decide +kernel
theorem dX4_fuse_192 : decode cX4_fuse 192 = .ok (.iload 5, 2) := by decide +kernel
theorem dX4_fuse_194 : decode cX4_fuse 194 = .ok (.invokevirtual 60, 3) := by decide +kernel
theorem dX4_fuse_197 : decode cX4_fuse 197 = .ok (.aload_n 0, 1) := by decide +kernel
theorem dX4_fuse_198 : decode cX4_fuse 198 = .ok (.getfield 7, 3) := by decide +kernel
theorem dX4_fuse_201 : decode cX4_fuse 201 = .ok (.bipush 9, 2) := by decide +kernel
theorem dX4_fuse_203 : decode cX4_fuse 203 = .ok (.iload 5, 2) := by decide +kernel
theorem dX4_fuse_205 : decode cX4_fuse 205 = .ok (.iadd, 1) := by decide +kernel
theorem dX4_fuse_206 : decode cX4_fuse 206 = .ok (.iaload, 1) := by decide +kernel
theorem dX4_fuse_207 : decode cX4_fuse 207 = .ok (.iadd, 1) := by decide +kernel
theorem dX4_fuse_208 : decode cX4_fuse 208 = .ok (.istore 6, 2) := by decide +kernel
theorem dX4_fuse_210 : decode cX4_fuse 210 = .ok (.aload_n 0, 1) := by decide +kernel
theorem dX4_fuse_211 : decode cX4_fuse 211 = .ok (.getfield 7, 3) := by decide +kernel
theorem dX4_fuse_214 : decode cX4_fuse 214 = .ok (.iconst 4, 1) := by decide +kernel
theorem dX4_fuse_215 : decode cX4_fuse 215 = .ok (.iaload, 1) := by decide +kernel
theorem dX4_fuse_216 : decode cX4_fuse 216 = .ok (.iconst 1, 1) := by decide +kernel
theorem dX4_fuse_217 : decode cX4_fuse 217 = .ok (.isub, 1) := by decide +kernel
theorem dX4_fuse_218 : decode cX4_fuse 218 = .ok (.istore 7, 2) := by decide +kernel
theorem dX4_fuse_220 : decode cX4_fuse 220 = .ok (.iload 7, 2) := by decide +kernel
theorem dX4_fuse_222 : decode cX4_fuse 222 = .ok (.iload 6, 2) := by decide +kernel
theorem dX4_fuse_224 : decode cX4_fuse 224 = .ok (.if_icmp .lt 55, 3) := by decide +kernel
theorem dX4_fuse_227 : decode cX4_fuse 227 = .ok (.aload_n 0, 1) := by decide +kernel
theorem dX4_fuse_228 : decode cX4_fuse 228 = .ok (.getfield 7, 3) := by decide +kernel
theorem dX4_fuse_231 : decode cX4_fuse 231 = .ok (.bipush 45, 2) := by decide +kernel
theorem dX4_fuse_233 : decode cX4_fuse 233 = .ok (.iload 7, 2) := by decide +kernel
theorem dX4_fuse_235 : decode cX4_fuse 235 = .ok (.iadd, 1) := by decide +kernel
theorem dX4_fuse_236 : decode cX4_fuse 236 = .ok (.iload_n 3, 1) := by decide +kernel
theorem dX4_fuse_237 : decode cX4_fuse 237 = .ok (.iadd, 1) := by decide +kernel
theorem dX4_fuse_238 : decode cX4_fuse 238 = .ok (.aload_n 0, 1) := by decide +kernel
theorem dX4_fuse_239 : decode cX4_fuse 239 = .ok (.getfield 7, 3) := by decide +kernel
theorem dX4_fuse_242 : decode cX4_fuse 242 = .ok (.bipush 45, 2) := by decide +kernel
theorem dX4_fuse_244 : decode cX4_fuse 244 = .ok (.iload 7, 2) := by decide +kernel
theorem dX4_fuse_246 : decode cX4_fuse 246 = .ok (.iadd, 1) := by decide +kernel
theorem dX4_fuse_247 : decode cX4_fuse 247 = .ok (.iaload, 1) := by decide +kernel
theorem dX4_fuse_248 : decode cX4_fuse 248 = .ok (.iastore, 1) := by decide +kernel
theorem dX4_fuse_249 : decode cX4_fuse 249 = .ok (.aload_n 0, 1) := by decide +kernel
theorem dX4_fuse_250 : decode cX4_fuse 250 = .ok (.getfield 7, 3) := by decide +kernel
theorem dX4_fuse_253 : decode cX4_fuse 253 = .ok (.sipush 195, 3) := by decide +kernel
theorem dX4_fuse_256 : decode cX4_fuse 256 = .ok (.iload 7, 2) := by decide +kernel
theorem dX4_fuse_258 : decode cX4_fuse 258 = .ok (.iadd, 1) := by decide +kernel
theorem dX4_fuse_259 : decode cX4_fuse 259 = .ok (.iload_n 3, 1) := by decide +kernel
theorem dX4_fuse_260 : decode cX4_fuse 260 = .ok (.iadd, 1) := by decide +kernel
theorem dX4_fuse_261 : decode cX4_fuse 261 = .ok (.aload_n 0, 1) := by decide +kernel
theorem dX4_fuse_262 : decode cX4_fuse 262 = .ok (.getfield 7, 3) := by decide +kernel
theorem dX4_fuse_265 : decode cX4_fuse 265 = .ok (.sipush 195, 3) := by decide +kernel
theorem dX4_fuse_268 : decode cX4_fuse 268 = .ok (.iload 7, 2) := by decide +kernel
theorem dX4_fuse_270 : decode cX4_fuse 270 = .ok (.iadd, 1) := by decide +kernel
theorem dX4_fuse_271 : decode cX4_fuse 271 = .ok (.iaload, 1) := by decide +kernel
theorem dX4_fuse_272 : decode cX4_fuse 272 = .ok (.iastore, 1) := by decide +kernel
theorem dX4_fuse_273 : decode cX4_fuse 273 = .ok (.iinc 7 (-1), 3) := by decide +kernel
theorem dX4_fuse_276 : decode cX4_fuse 276 = .ok (.goto (-56), 3) := by decide +kernel
theorem dX4_fuse_279 : decode cX4_fuse 279 = .ok (.iconst 0, 1) := by decide +kernel
theorem dX4_fuse_280 : decode cX4_fuse 280 = .ok (.istore 7, 2) := by decide +kernel
theorem dX4_fuse_282 : decode cX4_fuse 282 = .ok (.iload 7, 2) := by decide +kernel
theorem dX4_fuse_284 : decode cX4_fuse 284 = .ok (.iload_n 3, 1) := by decide +kernel
theorem dX4_fuse_285 : decode cX4_fuse 285 = .ok (.if_icmp .ge 50, 3) := by decide +kernel
theorem dX4_fuse_288 : decode cX4_fuse 288 = .ok (.aload_n 0, 1) := by decide +kernel
theorem dX4_fuse_289 : decode cX4_fuse 289 = .ok (.getfield 7, 3) := by decide +kernel
theorem dX4_fuse_292 : decode cX4_fuse 292 = .ok (.bipush 45, 2) := by decide +kernel
theorem dX4_fuse_294 : decode cX4_fuse 294 = .ok (.iload 6, 2) := by decide +kernel
theorem dX4_fuse_296 : decode cX4_fuse 296 = .ok (.iadd, 1) := by decide +kernel
theorem dX4_fuse_297 : decode cX4_fuse 297 = .ok (.iload 7, 2) := by decide +kernel
theorem dX4_fuse_299 : decode cX4_fuse 299 = .ok (.iadd, 1) := by decide +kernel
theorem dX4_fuse_300 : decode cX4_fuse 300 = .ok (.aload_n 0, 1) := by decide +kernel
theorem dX4_fuse_301 : decode cX4_fuse 301 = .ok (.getfield 29, 3) := by decide +kernel
theorem dX4_fuse_304 : decode cX4_fuse 304 = .ok (.iload 7, 2) := by decide +kernel
theorem dX4_fuse_306 : decode cX4_fuse 306 = .ok (.iaload, 1) := by decide +kernel
theorem dX4_fuse_307 : decode cX4_fuse 307 = .ok (.iastore, 1) := by decide +kernel
theorem dX4_fuse_308 : decode cX4_fuse 308 = .ok (.aload_n 0, 1) := by decide +kernel
theorem dX4_fuse_309 : decode cX4_fuse 309 = .ok (.getfield 7, 3) := by decide +kernel
theorem dX4_fuse_312 : decode cX4_fuse 312 = .ok (.sipush 195, 3) := by decide +kernel
theorem dX4_fuse_315 : decode cX4_fuse 315 = .ok (.iload 6, 2) := by decide +kernel
theorem dX4_fuse_317 : decode cX4_fuse 317 = .ok (.iadd, 1) := by decide +kernel
theorem dX4_fuse_318 : decode cX4_fuse 318 = .ok (.iload 7, 2) := by decide +kernel
theorem dX4_fuse_320 : decode cX4_fuse 320 = .ok (.iadd, 1) := by decide +kernel
theorem dX4_fuse_321 : decode cX4_fuse 321 = .ok (.aload_n 0, 1) := by decide +kernel
theorem dX4_fuse_322 : decode cX4_fuse 322 = .ok (.getfield 32, 3) := by decide +kernel
theorem dX4_fuse_325 : decode cX4_fuse 325 = .ok (.iload 7, 2) := by decide +kernel
theorem dX4_fuse_327 : decode cX4_fuse 327 = .ok (.iaload, 1) := by decide +kernel
theorem dX4_fuse_328 : decode cX4_fuse 328 = .ok (.iastore, 1) := by decide +kernel
theorem dX4_fuse_329 : decode cX4_fuse 329 = .ok (.iinc 7 1, 3) := by decide +kernel
theorem dX4_fuse_332 : decode cX4_fuse 332 = .ok (.goto (-50), 3) := by decide +kernel
theorem dX4_fuse_335 : decode cX4_fuse 335 = .ok (.aload_n 0, 1) := by decide +kernel
theorem dX4_fuse_336 : decode cX4_fuse 336 = .ok (.getfield 7, 3) := by decide +kernel
theorem dX4_fuse_339 : decode cX4_fuse 339 = .ok (.iconst 4, 1) := by decide +kernel
theorem dX4_fuse_340 : decode cX4_fuse 340 = .ok (.dup2, 1) := by decide +kernel
theorem dX4_fuse_341 : decode cX4_fuse 341 = .ok (.iaload, 1) := by decide +kernel
theorem dX4_fuse_342 : decode cX4_fuse 342 = .ok (.iload_n 3, 1) := by decide +kernel
theorem dX4_fuse_343 : decode cX4_fuse 343 = .ok (.iadd, 1) := by decide +kernel
theorem dX4_fuse_344 : decode cX4_fuse 344 = .ok (.iastore, 1) := by decide +kernel
theorem dX4_fuse_345 : decode cX4_fuse 345 = .ok (.aload_n 0, 1) := by decide +kernel
theorem dX4_fuse_346 : decode cX4_fuse 346 = .ok (.getfield 7, 3) := by decide +kernel
theorem dX4_fuse_349 : decode cX4_fuse 349 = .ok (.bipush 9, 2) := by decide +kernel
theorem dX4_fuse_351 : decode cX4_fuse 351 = .ok (.iload 5, 2) := by decide +kernel
theorem dX4_fuse_353 : decode cX4_fuse 353 = .ok (.iadd, 1) := by decide +kernel
theorem dX4_fuse_354 : decode cX4_fuse 354 = .ok (.dup2, 1) := by decide +kernel
theorem dX4_fuse_355 : decode cX4_fuse 355 = .ok (.iaload, 1) := by decide +kernel
theorem dX4_fuse_356 : decode cX4_fuse 356 = .ok (.iload_n 3, 1) := by decide +kernel
theorem dX4_fuse_357 : decode cX4_fuse 357 = .ok (.iadd, 1) := by decide +kernel
theorem dX4_fuse_358 : decode cX4_fuse 358 = .ok (.iastore, 1) := by decide +kernel
theorem dX4_fuse_359 : decode cX4_fuse 359 = .ok (.aload_n 0, 1) := by decide +kernel
theorem dX4_fuse_360 : decode cX4_fuse 360 = .ok (.getfield 7, 3) := by decide +kernel
theorem dX4_fuse_363 : decode cX4_fuse 363 = .ok (.bipush 33, 2) := by decide +kernel
theorem dX4_fuse_365 : decode cX4_fuse 365 = .ok (.iload 5, 2) := by decide +kernel
theorem dX4_fuse_367 : decode cX4_fuse 367 = .ok (.iadd, 1) := by decide +kernel
theorem dX4_fuse_368 : decode cX4_fuse 368 = .ok (.iload 4, 2) := by decide +kernel
theorem dX4_fuse_370 : decode cX4_fuse 370 = .ok (.iconst 1, 1) := by decide +kernel
theorem dX4_fuse_371 : decode cX4_fuse 371 = .ok (.iadd, 1) := by decide +kernel
theorem dX4_fuse_372 : decode cX4_fuse 372 = .ok (.iastore, 1) := by decide +kernel
theorem dX4_fuse_373 : decode cX4_fuse 373 = .ok (.aload_n 0, 1) := by decide +kernel
theorem dX4_fuse_374 : decode cX4_fuse 374 = .ok (.iload 6, 2) := by decide +kernel
theorem dX4_fuse_376 : decode cX4_fuse 376 = .ok (.iconst 1, 1) := by decide +kernel
theorem dX4_fuse_377 : decode cX4_fuse 377 = .ok (.isub, 1) := by decide +kernel
theorem dX4_fuse_378 : decode cX4_fuse 378 = .ok (.aload_n 0, 1) := by decide +kernel
theorem dX4_fuse_379 : decode cX4_fuse 379 = .ok (.getfield 7, 3) := by decide +kernel
theorem dX4_fuse_382 : decode cX4_fuse 382 = .ok (.iconst 1, 1) := by decide +kernel
theorem dX4_fuse_383 : decode cX4_fuse 383 = .ok (.iaload, 1) := by decide +kernel
theorem dX4_fuse_384 : decode cX4_fuse 384 = .ok (.invokevirtual 67, 3) := by decide +kernel
theorem dX4_fuse_387 : decode cX4_fuse 387 = .ok (.aload_n 0, 1) := by decide +kernel
theorem dX4_fuse_388 : decode cX4_fuse 388 = .ok (.iload 6, 2) := by decide +kernel
theorem dX4_fuse_390 : decode cX4_fuse 390 = .ok (.aload_n 0, 1) := by decide +kernel
theorem dX4_fuse_391 : decode cX4_fuse 391 = .ok (.getfield 7, 3) := by decide +kernel
theorem dX4_fuse_394 : decode cX4_fuse 394 = .ok (.iconst 1, 1) := by decide +kernel
theorem dX4_fuse_395 : decode cX4_fuse 395 = .ok (.iaload, 1) := by decide +kernel
theorem dX4_fuse_396 : decode cX4_fuse 396 = .ok (.invokevirtual 67, 3) := by decide +kernel
theorem dX4_fuse_399 : decode cX4_fuse 399 = .ok (.aload_n 0, 1) := by decide +kernel
theorem dX4_fuse_400 : decode cX4_fuse 400 = .ok (.invokevirtual 85, 3) := by decide +kernel
theorem dX4_fuse_403 : decode cX4_fuse 403 = .ok (.ireturn, 1) := by decide +kernel
theorem ggX4_reactOne_X4_storyOf : GoodIn wsX4_reactOne wsX4_storyOf := goodIn_r _ [6, 1, 19, 20, 21, 22, 23, 24, 25, 26, 27, 28, 29, 30, 31, 32, 33, 34, 35, 36, 37, 38, 39] rfl (by decide +kernel)
theorem gX4_reactOne_X4_storyOf : GoodIn wsX4_reactOne (wsV RX4 56 RX4 yX4_storyOf wsX4_storyOf) := goodIn_app (goodIn_r _ [2, 3, 4, 5] rfl (by decide +kernel)) ggX4_reactOne_X4_storyOf
theorem ggX4_reactOne_X4_first : GoodIn wsX4_reactOne wsX4_first := goodIn_r _ [10, 1, 19, 20, 21, 22, 23, 24, 25, 26, 27, 28, 29, 30, 31, 32, 33, 34, 35, 36, 37, 38, 39] rfl (by decide +kernel)
theorem gX4_reactOne_X4_first : GoodIn wsX4_reactOne (wsV RX4 60 RX4 yX4_first wsX4_first) := goodIn_app (goodIn_r _ [7, 8, 9, 5] rfl (by decide +kernel)) ggX4_reactOne_X4_first
theorem ggX4_reactOne_X4_split : GoodIn wsX4_reactOne wsX4_split := goodIn_r _ [14, 1, 19, 20, 21, 22, 23, 24, 25, 26, 27, 28, 29, 30, 31, 32, 33, 34, 35, 36, 37, 38, 39] rfl (by decide +kernel)
theorem gX4_reactOne_X4_split : GoodIn wsX4_reactOne (wsV RX4 63 RX4 yX4_split wsX4_split) := goodIn_app (goodIn_r _ [11, 12, 13, 5] rfl (by decide +kernel)) ggX4_reactOne_X4_split
theorem ggX4_reactOne_X4_warm : GoodIn wsX4_reactOne wsX4_warm := goodIn_r _ [18, 1, 19, 20, 21, 22, 23, 24, 25, 26, 27, 28, 29, 30, 31, 32, 33, 34, 35, 36, 37, 38, 39] rfl (by decide +kernel)
theorem gX4_reactOne_X4_warm : GoodIn wsX4_reactOne (wsV RX4 67 RX4 yX4_warm wsX4_warm) := goodIn_app (goodIn_r _ [15, 16, 17, 5] rfl (by decide +kernel)) ggX4_reactOne_X4_warm
theorem ggX4_react_X4_reactOne : GoodIn wsX4_react wsX4_reactOne := goodIn_r _ [6, 1, 7, 8, 9, 5, 10, 11, 12, 13, 14, 15, 16, 17, 18, 19, 20, 21, 22, 23, 24, 25, 26, 27, 28, 29, 30, 31, 32, 33, 34, 35, 36, 37, 38, 39, 40, 41, 42, 43] rfl (by decide +kernel)
theorem gX4_react_X4_reactOne : GoodIn wsX4_react (wsV RX4 70 RX4 yX4_reactOne wsX4_reactOne) := goodIn_app (goodIn_r _ [2, 3, 4, 5] rfl (by decide +kernel)) ggX4_react_X4_reactOne
theorem ggX4_times_X4_first : GoodIn wsX4_times wsX4_first := goodIn_r _ [6, 1, 7, 8, 9, 10, 11, 12, 13, 14, 15, 16, 17, 18, 19, 20, 21, 22, 23, 24, 25, 26, 27] rfl (by decide +kernel)
theorem gX4_times_X4_first : GoodIn wsX4_times (wsV RX4 60 RX4 yX4_first wsX4_first) := goodIn_app (goodIn_r _ [2, 3, 4, 5] rfl (by decide +kernel)) ggX4_times_X4_first
theorem ggX4_theme_X4_times : GoodIn wsX4_theme wsX4_times := goodIn_r _ [5, 6, 7, 8, 9, 4, 10, 11, 12, 13, 14, 15, 16, 17, 18, 19, 20, 21, 22, 23, 24, 25, 26, 27, 28, 29, 30, 31] rfl (by decide +kernel)
theorem gX4_theme_X4_times : GoodIn wsX4_theme (wsV RX4 74 RX4 yX4_times wsX4_times) := goodIn_app (goodIn_r _ [1, 2, 3, 4] rfl (by decide +kernel)) ggX4_theme_X4_times
theorem ggX4_heatOf_X4_first : GoodIn wsX4_heatOf wsX4_first := goodIn_r _ [6, 1, 7, 8, 9, 10, 11, 12, 13, 14, 15, 16, 17, 18, 19, 20, 21, 22, 23, 24, 25, 26, 27] rfl (by decide +kernel)
theorem gX4_heatOf_X4_first : GoodIn wsX4_heatOf (wsV RX4 60 RX4 yX4_first wsX4_first) := goodIn_app (goodIn_r _ [2, 3, 4, 5] rfl (by decide +kernel)) ggX4_heatOf_X4_first
theorem ggX4_set_X4_in : GoodIn wsX4_set wsX4_in := goodIn_r _ [5] rfl (by decide +kernel)
theorem gX4_set_X4_in : GoodIn wsX4_set (va_wsS RX4 44 yX4_in wsX4_in) := goodIn_app (goodIn_r _ [2, 3, 4] rfl (by decide +kernel)) ggX4_set_X4_in
theorem ggX4_set_X4_know : GoodIn wsX4_set wsX4_know := goodIn_r _ [9, 10, 11, 1, 12, 13, 14, 15, 16, 17, 18, 19, 20, 21, 22, 23, 24, 25, 26, 27, 28, 29, 30, 31, 32] rfl (by decide +kernel)
theorem gX4_set_X4_know : GoodIn wsX4_set (wsV RX4 78 RX4 yX4_know wsX4_know) := goodIn_app (goodIn_r _ [6, 7, 8, 4] rfl (by decide +kernel)) ggX4_set_X4_know
theorem ggX4_heat_X4_isWord : GoodIn wsX4_heat wsX4_isWord := goodIn_r _ [5, 6, 7, 8, 9, 4, 10, 11, 12, 13, 44, 45, 46, 47, 48, 49, 50, 51, 52, 53, 54, 55, 56, 57, 58, 59, 60, 61, 62, 63, 64] rfl (by decide +kernel)
theorem gX4_heat_X4_isWord : GoodIn wsX4_heat (wsV RX4 81 RX4 yX4_isWord wsX4_isWord) := goodIn_app (goodIn_r _ [1, 2, 3, 4] rfl (by decide +kernel)) ggX4_heat_X4_isWord
theorem ggX4_heat_X4_in : GoodIn wsX4_heat wsX4_in := goodIn_r _ [13] rfl (by decide +kernel)
theorem gX4_heat_X4_in : GoodIn wsX4_heat (va_wsS RX4 44 yX4_in wsX4_in) := goodIn_app (goodIn_r _ [11, 12, 4] rfl (by decide +kernel)) ggX4_heat_X4_in
theorem ggX4_heat_X4_know : GoodIn wsX4_heat wsX4_know := goodIn_r _ [17, 18, 19, 6, 44, 45, 46, 47, 48, 49, 50, 51, 52, 53, 54, 55, 56, 57, 58, 59, 60, 61, 62, 63, 64] rfl (by decide +kernel)
theorem gX4_heat_X4_know : GoodIn wsX4_heat (wsV RX4 78 RX4 yX4_know wsX4_know) := goodIn_app (goodIn_r _ [14, 15, 16, 4] rfl (by decide +kernel)) ggX4_heat_X4_know
theorem ggX4_heat_X4_first : GoodIn wsX4_heat wsX4_first := goodIn_r _ [23, 6, 44, 45, 46, 47, 48, 49, 50, 51, 52, 53, 54, 55, 56, 57, 58, 59, 60, 61, 62, 63, 64] rfl (by decide +kernel)
theorem gX4_heat_X4_first : GoodIn wsX4_heat (wsV RX4 60 RX4 yX4_first wsX4_first) := goodIn_app (goodIn_r _ [20, 21, 22, 4] rfl (by decide +kernel)) ggX4_heat_X4_first
theorem ggX4_heat_X4_warm : GoodIn wsX4_heat wsX4_warm := goodIn_r _ [27, 6, 44, 45, 46, 47, 48, 49, 50, 51, 52, 53, 54, 55, 56, 57, 58, 59, 60, 61, 62, 63, 64] rfl (by decide +kernel)
theorem gX4_heat_X4_warm : GoodIn wsX4_heat (wsV RX4 67 RX4 yX4_warm wsX4_warm) := goodIn_app (goodIn_r _ [24, 25, 26, 4] rfl (by decide +kernel)) ggX4_heat_X4_warm
theorem ggX4_heat_X4_react : GoodIn wsX4_heat wsX4_react := goodIn_r _ [31, 6, 32, 33, 34, 4, 35, 36, 37, 38, 39, 20, 21, 22, 23, 40, 41, 42, 43, 24, 25, 26, 27, 44, 45, 46, 47, 48, 49, 50, 51, 52, 53, 54, 55, 56, 57, 58, 59, 60, 61, 62, 63, 64] rfl (by decide +kernel)
theorem gX4_heat_X4_react : GoodIn wsX4_heat (wsV RX4 85 RX4 yX4_react wsX4_react) := goodIn_app (goodIn_r _ [28, 29, 30, 4] rfl (by decide +kernel)) ggX4_heat_X4_react
theorem ggX4_read_X4_isStory : GoodIn wsX4_read wsX4_isStory := goodIn_r _ [6, 1, 7, 8, 5, 9, 40, 41, 42, 43, 44, 45, 46, 47, 48, 49, 50, 51, 52, 53, 54, 55, 56, 57, 58, 59, 60] rfl (by decide +kernel)
theorem gX4_read_X4_isStory : GoodIn wsX4_read (wsV RX4 48 RX4 yX4_isStory wsX4_isStory) := goodIn_app (goodIn_r _ [2, 3, 4, 5] rfl (by decide +kernel)) ggX4_read_X4_isStory
theorem ggX4_read_X4_in : GoodIn wsX4_read wsX4_in := goodIn_r _ [9] rfl (by decide +kernel)
theorem gX4_read_X4_in : GoodIn wsX4_read (va_wsS RX4 44 yX4_in wsX4_in) := goodIn_app (goodIn_r _ [7, 8, 5] rfl (by decide +kernel)) ggX4_read_X4_in
theorem ggX4_read_X4_know : GoodIn wsX4_read wsX4_know := goodIn_r _ [13, 14, 15, 1, 40, 41, 42, 43, 44, 45, 46, 47, 48, 49, 50, 51, 52, 53, 54, 55, 56, 57, 58, 59, 60] rfl (by decide +kernel)
theorem gX4_read_X4_know : GoodIn wsX4_read (wsV RX4 78 RX4 yX4_know wsX4_know) := goodIn_app (goodIn_r _ [10, 11, 12, 5] rfl (by decide +kernel)) ggX4_read_X4_know
theorem ggX4_read_X4_first : GoodIn wsX4_read wsX4_first := goodIn_r _ [19, 1, 40, 41, 42, 43, 44, 45, 46, 47, 48, 49, 50, 51, 52, 53, 54, 55, 56, 57, 58, 59, 60] rfl (by decide +kernel)
theorem gX4_read_X4_first : GoodIn wsX4_read (wsV RX4 60 RX4 yX4_first wsX4_first) := goodIn_app (goodIn_r _ [16, 17, 18, 5] rfl (by decide +kernel)) ggX4_read_X4_first
theorem ggX4_read_X4_warm : GoodIn wsX4_read wsX4_warm := goodIn_r _ [23, 1, 40, 41, 42, 43, 44, 45, 46, 47, 48, 49, 50, 51, 52, 53, 54, 55, 56, 57, 58, 59, 60] rfl (by decide +kernel)
theorem gX4_read_X4_warm : GoodIn wsX4_read (wsV RX4 67 RX4 yX4_warm wsX4_warm) := goodIn_app (goodIn_r _ [20, 21, 22, 5] rfl (by decide +kernel)) ggX4_read_X4_warm
theorem ggX4_read_X4_react : GoodIn wsX4_read wsX4_react := goodIn_r _ [27, 1, 28, 29, 30, 5, 31, 32, 33, 34, 35, 16, 17, 18, 19, 36, 37, 38, 39, 20, 21, 22, 23, 40, 41, 42, 43, 44, 45, 46, 47, 48, 49, 50, 51, 52, 53, 54, 55, 56, 57, 58, 59, 60] rfl (by decide +kernel)
theorem gX4_read_X4_react : GoodIn wsX4_read (wsV RX4 85 RX4 yX4_react wsX4_react) := goodIn_app (goodIn_r _ [24, 25, 26, 5] rfl (by decide +kernel)) ggX4_read_X4_react
theorem ggX4_fuse_X4_isStory : GoodIn wsX4_fuse wsX4_isStory := goodIn_r _ [8, 1, 9, 10, 7, 11, 58, 59, 60, 61, 62, 63, 64, 65, 66, 67, 68, 69, 70, 71, 72, 73, 74, 75, 76, 77, 78] rfl (by decide +kernel)
theorem gX4_fuse_X4_isStory : GoodIn wsX4_fuse (wsV RX4 48 RX4 yX4_isStory wsX4_isStory) := goodIn_app (goodIn_r _ [4, 5, 6, 7] rfl (by decide +kernel)) ggX4_fuse_X4_isStory
theorem ggX4_fuse_X4_theme : GoodIn wsX4_fuse wsX4_theme := goodIn_r _ [15, 16, 17, 18, 7, 19, 1, 20, 21, 22, 23, 58, 59, 60, 61, 62, 63, 64, 65, 66, 67, 68, 69, 70, 71, 72, 73, 74, 75, 76, 77, 78] rfl (by decide +kernel)
theorem gX4_fuse_X4_theme : GoodIn wsX4_fuse (wsV RX4 89 RX4 yX4_theme wsX4_theme) := goodIn_app (goodIn_r _ [12, 13, 14, 7] rfl (by decide +kernel)) ggX4_fuse_X4_theme
theorem ggX4_fuse_X4_know : GoodIn wsX4_fuse wsX4_know := goodIn_r _ [27, 28, 29, 1, 58, 59, 60, 61, 62, 63, 64, 65, 66, 67, 68, 69, 70, 71, 72, 73, 74, 75, 76, 77, 78] rfl (by decide +kernel)
theorem gX4_fuse_X4_know : GoodIn wsX4_fuse (wsV RX4 78 RX4 yX4_know wsX4_know) := goodIn_app (goodIn_r _ [24, 25, 26, 7] rfl (by decide +kernel)) ggX4_fuse_X4_know
theorem ggX4_fuse_X4_first : GoodIn wsX4_fuse wsX4_first := goodIn_r _ [23, 1, 58, 59, 60, 61, 62, 63, 64, 65, 66, 67, 68, 69, 70, 71, 72, 73, 74, 75, 76, 77, 78] rfl (by decide +kernel)
theorem gX4_fuse_X4_first : GoodIn wsX4_fuse (wsV RX4 60 RX4 yX4_first wsX4_first) := goodIn_app (goodIn_r _ [20, 21, 22, 7] rfl (by decide +kernel)) ggX4_fuse_X4_first
theorem ggX4_fuse_X4_removeWords : GoodIn wsX4_fuse wsX4_removeWords := goodIn_r _ [33, 1, 58, 59, 60, 61, 62, 63, 64, 65, 66, 67, 68, 69, 70, 71, 72, 73, 74, 75, 76, 77, 78] rfl (by decide +kernel)
theorem gX4_fuse_X4_removeWords : GoodIn wsX4_fuse (wsV RX4 92 RX4 yX4_removeWords wsX4_removeWords) := goodIn_app (goodIn_r _ [30, 31, 32, 7] rfl (by decide +kernel)) ggX4_fuse_X4_removeWords
theorem ggX4_fuse_X4_removeStory : GoodIn wsX4_fuse wsX4_removeStory := goodIn_r _ [37, 1, 58, 59, 60, 61, 62, 63, 64, 65, 66, 67, 68, 69, 70, 71, 72, 73, 74, 75, 76, 77, 78] rfl (by decide +kernel)
theorem gX4_fuse_X4_removeStory : GoodIn wsX4_fuse (wsV RX4 95 RX4 yX4_removeStory wsX4_removeStory) := goodIn_app (goodIn_r _ [34, 35, 36, 7] rfl (by decide +kernel)) ggX4_fuse_X4_removeStory
theorem ggX4_fuse_X4_warm : GoodIn wsX4_fuse wsX4_warm := goodIn_r _ [41, 1, 58, 59, 60, 61, 62, 63, 64, 65, 66, 67, 68, 69, 70, 71, 72, 73, 74, 75, 76, 77, 78] rfl (by decide +kernel)
theorem gX4_fuse_X4_warm : GoodIn wsX4_fuse (wsV RX4 67 RX4 yX4_warm wsX4_warm) := goodIn_app (goodIn_r _ [38, 39, 40, 7] rfl (by decide +kernel)) ggX4_fuse_X4_warm
theorem ggX4_fuse_X4_react : GoodIn wsX4_fuse wsX4_react := goodIn_r _ [45, 1, 46, 47, 48, 7, 49, 50, 51, 52, 53, 20, 21, 22, 23, 54, 55, 56, 57, 38, 39, 40, 41, 58, 59, 60, 61, 62, 63, 64, 65, 66, 67, 68, 69, 70, 71, 72, 73, 74, 75, 76, 77, 78] rfl (by decide +kernel)
theorem gX4_fuse_X4_react : GoodIn wsX4_fuse (wsV RX4 85 RX4 yX4_react wsX4_react) := goodIn_app (goodIn_r _ [42, 43, 44, 7] rfl (by decide +kernel)) ggX4_fuse_X4_react
