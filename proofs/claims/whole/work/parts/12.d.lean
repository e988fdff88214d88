theorem dX2_react_0 : decode cX2_react 0 = .ok (.iconst 0, 1) := by decide +kernel
theorem dX2_react_1 : decode cX2_react 1 = .ok (.istore_n 1, 1) := by decide +kernel
theorem dX2_react_2 : decode cX2_react 2 = .ok (.iconst 0, 1) := by decide +kernel
theorem dX2_react_3 : decode cX2_react 3 = .ok (.istore_n 2, 1) := by decide +kernel
theorem dX2_react_4 : decode cX2_react 4 = .ok (.iconst 0, 1) := by decide +kernel
theorem dX2_react_5 : decode cX2_react 5 = .ok (.istore_n 3, 1) := by decide +kernel
theorem dX2_react_6 : decode cX2_react 6 = .ok (.iload_n 3, 1) := by decide +kernel
theorem dX2_react_7 : decode cX2_react 7 = .ok (.ldc 80, 2) := by decide +kernel
theorem dX2_react_9 : decode cX2_react 9 = .ok (.if_icmp .ge 54, 3) := by decide +kernel
theorem dX2_react_12 : decode cX2_react 12 = .ok (.iload_n 2, 1) := by decide +kernel
theorem dX2_react_13 : decode cX2_react 13 = .ok (.aload_n 0, 1) := by decide +kernel
theorem dX2_react_14 : decode cX2_react 14 = .ok (.invokevirtual 33, 3) := by decide +kernel
theorem dX2_react_17 : decode cX2_react 17 = .ok (.if_icmp .ge 46, 3) := by decide +kernel
theorem dX2_react_20 : decode cX2_react 20 = .ok (.aload_n 0, 1) := by decide +kernel
theorem dX2_react_21 : decode cX2_react 21 = .ok (.getfield 18, 3) := by decide +kernel
theorem dX2_react_24 : decode cX2_react 24 = .ok (.iload_n 2, 1) := by decide +kernel
theorem dX2_react_25 : decode cX2_react 25 = .ok (.iaload, 1) := by decide +kernel
theorem dX2_react_26 : decode cX2_react 26 = .ok (.aload_n 0, 1) := by decide +kernel
theorem dX2_react_27 : decode cX2_react 27 = .ok (.getfield 9, 3) := by decide +kernel
theorem dX2_react_30 : decode cX2_react 30 = .ok (.iconst 0, 1) := by decide +kernel
theorem dX2_react_31 : decode cX2_react 31 = .ok (.iaload, 1) := by decide +kernel
theorem dX2_react_32 : decode cX2_react 32 = .ok (.if_icmp .ge 9, 3) := by decide +kernel
theorem dX2_react_35 : decode cX2_react 35 = .ok (.iinc 2 1, 3) := by decide +kernel
theorem dX2_react_38 : decode cX2_react 38 = .ok (.goto 19, 3) := by decide +kernel
theorem dX2_react_41 : decode cX2_react 41 = .ok (.aload_n 0, 1) := by decide +kernel
theorem dX2_react_42 : decode cX2_react 42 = .ok (.iload_n 2, 1) := by decide +kernel
theorem dX2_react_43 : decode cX2_react 43 = .ok (.invokevirtual 81, 3) := by decide +kernel
theorem dX2_react_46 : decode cX2_react 46 = .ok (.iinc 1 1, 3) := by decide +kernel
theorem dX2_react_49 : decode cX2_react 49 = .ok (.iconst 0, 1) := by decide +kernel
theorem dX2_react_50 : decode cX2_react 50 = .ok (.iload_n 2, 1) := by decide +kernel
theorem dX2_react_51 : decode cX2_react 51 = .ok (.iconst 1, 1) := by decide +kernel
theorem dX2_react_52 : decode cX2_react 52 = .ok (.isub, 1) := by decide +kernel
theorem dX2_react_53 : decode cX2_react 53 = .ok (.invokestatic 85, 3) := by decide +kernel
theorem dX2_react_56 : decode cX2_react 56 = .ok (.istore_n 2, 1) := by decide +kernel
theorem dX2_react_57 : decode cX2_react 57 = .ok (.iinc 3 1, 3) := by decide +kernel
theorem dX2_react_60 : decode cX2_react 60 = .ok (.goto (-54), 3) := by decide +kernel
theorem dX2_react_63 : decode cX2_react 63 = .ok (.iload_n 1, 1) := by decide +kernel
theorem dX2_react_64 : decode cX2_react 64 = .ok (.ireturn, 1) := by decide +kernel
theorem dX2_reactAt_0 : decode cX2_reactAt 0 = .ok (.aload_n 0, 1) := by decide +kernel
theorem dX2_reactAt_1 : decode cX2_reactAt 1 = .ok (.iload_n 1, 1) := by decide +kernel
theorem dX2_reactAt_2 : decode cX2_reactAt 2 = .ok (.invokevirtual 71, 3) := by decide +kernel
theorem dX2_reactAt_5 : decode cX2_reactAt 5 = .ok (.istore_n 2, 1) := by decide +kernel
theorem dX2_reactAt_6 : decode cX2_reactAt 6 = .ok (.aload_n 0, 1) := by decide +kernel
theorem dX2_reactAt_7 : decode cX2_reactAt 7 = .ok (.getfield 21, 3) := by decide +kernel
theorem dX2_reactAt_10 : decode cX2_reactAt 10 = .ok (.iload_n 2, 1) := by decide +kernel
theorem dX2_reactAt_11 : decode cX2_reactAt 11 = .ok (.iaload, 1) := by decide +kernel
theorem dX2_reactAt_12 : decode cX2_reactAt 12 = .ok (.istore_n 3, 1) := by decide +kernel
theorem dX2_reactAt_13 : decode cX2_reactAt 13 = .ok (.aload_n 0, 1) := by decide +kernel
theorem dX2_reactAt_14 : decode cX2_reactAt 14 = .ok (.getfield 21, 3) := by decide +kernel
theorem dX2_reactAt_17 : decode cX2_reactAt 17 = .ok (.iload_n 2, 1) := by decide +kernel
theorem dX2_reactAt_18 : decode cX2_reactAt 18 = .ok (.iconst 1, 1) := by decide +kernel
theorem dX2_reactAt_19 : decode cX2_reactAt 19 = .ok (.iadd, 1) := by decide +kernel
theorem dX2_reactAt_20 : decode cX2_reactAt 20 = .ok (.iaload, 1) := by decide +kernel
theorem dX2_reactAt_21 : decode cX2_reactAt 21 = .ok (.istore 4, 2) := by decide +kernel
theorem dX2_reactAt_23 : decode cX2_reactAt 23 = .ok (.iload_n 1, 1) := by decide +kernel
theorem dX2_reactAt_24 : decode cX2_reactAt 24 = .ok (.iload_n 3, 1) := by decide +kernel
theorem dX2_reactAt_25 : decode cX2_reactAt 25 = .ok (.if_icmp .ne 16, 3) := by decide +kernel
theorem dX2_reactAt_28 : decode cX2_reactAt 28 = .ok (.aload_n 0, 1) := by decide +kernel
theorem dX2_reactAt_29 : decode cX2_reactAt 29 = .ok (.dup, 1) := by decide +kernel
theorem dX2_reactAt_30 : decode cX2_reactAt 30 = .ok (.getfield 53, 3) := by decide +kernel
theorem dX2_reactAt_33 : decode cX2_reactAt 33 = .ok (.iconst 1, 1) := by decide +kernel
theorem dX2_reactAt_34 : decode cX2_reactAt 34 = .ok (.iadd, 1) := by decide +kernel
theorem dX2_reactAt_35 : decode cX2_reactAt 35 = .ok (.putfield 53, 3) := by decide +kernel
theorem dX2_reactAt_38 : decode cX2_reactAt 38 = .ok (.goto 41, 3) := by decide +kernel
theorem dX2_reactAt_41 : decode cX2_reactAt 41 = .ok (.aload_n 0, 1) := by decide +kernel
theorem dX2_reactAt_42 : decode cX2_reactAt 42 = .ok (.getfield 43, 3) := by decide +kernel
theorem dX2_reactAt_45 : decode cX2_reactAt 45 = .ok (.bipush 12, 2) := by decide +kernel
theorem dX2_reactAt_47 : decode cX2_reactAt 47 = .ok (.if_icmp .ge 22, 3) := by decide +kernel
theorem dX2_reactAt_50 : decode cX2_reactAt 50 = .ok (.aload_n 0, 1) := by decide +kernel
theorem dX2_reactAt_51 : decode cX2_reactAt 51 = .ok (.dup, 1) := by decide +kernel
theorem dX2_reactAt_52 : decode cX2_reactAt 52 = .ok (.getfield 50, 3) := by decide +kernel
theorem dX2_reactAt_55 : decode cX2_reactAt 55 = .ok (.iconst 1, 1) := by decide +kernel
theorem dX2_reactAt_56 : decode cX2_reactAt 56 = .ok (.iadd, 1) := by decide +kernel
theorem dX2_reactAt_57 : decode cX2_reactAt 57 = .ok (.putfield 50, 3) := by decide +kernel
theorem dX2_reactAt_60 : decode cX2_reactAt 60 = .ok (.aload_n 0, 1) := by decide +kernel
theorem dX2_reactAt_61 : decode cX2_reactAt 61 = .ok (.iload_n 2, 1) := by decide +kernel
theorem dX2_reactAt_62 : decode cX2_reactAt 62 = .ok (.iload_n 1, 1) := by decide +kernel
theorem dX2_reactAt_63 : decode cX2_reactAt 63 = .ok (.invokevirtual 88, 3) := by decide +kernel
theorem dX2_reactAt_66 : decode cX2_reactAt 66 = .ok (.goto 13, 3) := by decide +kernel
theorem dX2_reactAt_69 : decode cX2_reactAt 69 = .ok (.aload_n 0, 1) := by decide +kernel
theorem dX2_reactAt_70 : decode cX2_reactAt 70 = .ok (.dup, 1) := by decide +kernel
theorem dX2_reactAt_71 : decode cX2_reactAt 71 = .ok (.getfield 56, 3) := by decide +kernel
theorem dX2_reactAt_74 : decode cX2_reactAt 74 = .ok (.iconst 1, 1) := by decide +kernel
theorem dX2_reactAt_75 : decode cX2_reactAt 75 = .ok (.iadd, 1) := by decide +kernel
theorem dX2_reactAt_76 : decode cX2_reactAt 76 = .ok (.putfield 56, 3) := by decide +kernel
theorem dX2_reactAt_79 : decode cX2_reactAt 79 = .ok (.aload_n 0, 1) := by decide +kernel
theorem dX2_reactAt_80 : decode cX2_reactAt 80 = .ok (.getfield 18, 3) := by decide +kernel
theorem dX2_reactAt_83 : decode cX2_reactAt 83 = .ok (.iload_n 1, 1) := by decide +kernel
theorem dX2_reactAt_84 : decode cX2_reactAt 84 = .ok (.iconst 0, 1) := by decide +kernel
theorem dX2_reactAt_85 : decode cX2_reactAt 85 = .ok (.iastore, 1) := by decide +kernel
theorem dX2_reactAt_86 : decode cX2_reactAt 86 = .ok (.iload_n 1, 1) := by decide +kernel
theorem dX2_reactAt_87 : decode cX2_reactAt 87 = .ok (.iload_n 3, 1) := by decide +kernel
theorem dX2_reactAt_88 : decode cX2_reactAt 88 = .ok (.if_icmp .le 16, 3) := by decide +kernel
theorem dX2_reactAt_91 : decode cX2_reactAt 91 = .ok (.aload_n 0, 1) := by decide +kernel
theorem dX2_reactAt_92 : decode cX2_reactAt 92 = .ok (.iload_n 1, 1) := by decide +kernel
theorem dX2_reactAt_93 : decode cX2_reactAt 93 = .ok (.iconst 1, 1) := by decide +kernel
theorem dX2_reactAt_94 : decode cX2_reactAt 94 = .ok (.isub, 1) := by decide +kernel
theorem dX2_reactAt_95 : decode cX2_reactAt 95 = .ok (.aload_n 0, 1) := by decide +kernel
theorem dX2_reactAt_96 : decode cX2_reactAt 96 = .ok (.getfield 9, 3) := by decide +kernel
theorem dX2_reactAt_99 : decode cX2_reactAt 99 = .ok (.iconst 1, 1) := by decide +kernel
theorem dX2_reactAt_100 : decode cX2_reactAt 100 = .ok (.iaload, 1) := by decide +kernel
theorem dX2_reactAt_101 : decode cX2_reactAt 101 = .ok (.invokevirtual 92, 3) := by decide +kernel
theorem dX2_reactAt_104 : decode cX2_reactAt 104 = .ok (.iload_n 1, 1) := by decide +kernel
theorem dX2_reactAt_105 : decode cX2_reactAt 105 = .ok (.iconst 1, 1) := by decide +kernel
theorem dX2_reactAt_106 : decode cX2_reactAt 106 = .ok (.iadd, 1) := by decide +kernel
theorem dX2_reactAt_107 : decode cX2_reactAt 107 = .ok (.iload 4, 2) := by decide +kernel
theorem dX2_reactAt_109 : decode cX2_reactAt 109 = .ok (.if_icmp .ge 16, 3) := by decide +kernel
theorem dX2_reactAt_112 : decode cX2_reactAt 112 = .ok (.aload_n 0, 1) := by decide +kernel
theorem dX2_reactAt_113 : decode cX2_reactAt 113 = .ok (.iload_n 1, 1) := by decide +kernel
theorem dX2_reactAt_114 : decode cX2_reactAt 114 = .ok (.iconst 1, 1) := by decide +kernel
theorem dX2_reactAt_115 : decode cX2_reactAt 115 = .ok (.iadd, 1) := by decide +kernel
theorem dX2_reactAt_116 : decode cX2_reactAt 116 = .ok (.aload_n 0, 1) := by decide +kernel
theorem dX2_reactAt_117 : decode cX2_reactAt 117 = .ok (.getfield 9, 3) := by decide +kernel
theorem dX2_reactAt_120 : decode cX2_reactAt 120 = .ok (.iconst 1, 1) := by decide +kernel
theorem dX2_reactAt_121 : decode cX2_reactAt 121 = .ok (.iaload, 1) := by decide +kernel
theorem dX2_reactAt_122 : decode cX2_reactAt 122 = .ok (.invokevirtual 92, 3) := by decide +kernel
theorem dX2_reactAt_125 : decode cX2_reactAt 125 = .ok (.return_, 1) := by decide +kernel
theorem dX2_split_0 : decode cX2_split 0 = .ok (.aload_n 0, 1) := by decide +kernel
theorem dX2_split_1 : decode cX2_split 1 = .ok (.getfield 43, 3) := by decide +kernel
theorem dX2_split_4 : decode cX2_split 4 = .ok (.iload_n 1, 1) := by decide +kernel
theorem dX2_split_5 : decode cX2_split 5 = .ok (.isub, 1) := by decide +kernel
theorem dX2_split_6 : decode cX2_split 6 = .ok (.istore_n 3, 1) := by decide +kernel
theorem dX2_split_7 : decode cX2_split 7 = .ok (.aload_n 0, 1) := by decide +kernel
theorem dX2_split_8 : decode cX2_split 8 = .ok (.getfield 21, 3) := by decide +kernel
theorem dX2_split_11 : decode cX2_split 11 = .ok (.iload_n 1, 1) := by decide +kernel
theorem dX2_split_12 : decode cX2_split 12 = .ok (.iconst 1, 1) := by decide +kernel
theorem dX2_split_13 : decode cX2_split 13 = .ok (.iadd, 1) := by decide +kernel
theorem dX2_split_14 : decode cX2_split 14 = .ok (.aload_n 0, 1) := by decide +kernel
theorem dX2_split_15 : decode cX2_split 15 = .ok (.getfield 21, 3) := by decide +kernel
theorem dX2_split_18 : decode cX2_split 18 = .ok (.iload_n 1, 1) := by decide +kernel
theorem dX2_split_19 : decode cX2_split 19 = .ok (.iconst 2, 1) := by decide +kernel
theorem dX2_split_20 : decode cX2_split 20 = .ok (.iadd, 1) := by decide +kernel
theorem dX2_split_21 : decode cX2_split 21 = .ok (.iload_n 3, 1) := by decide +kernel
theorem dX2_split_22 : decode cX2_split 22 = .ok (.invokestatic 37, 3) := by decide +kernel
theorem dX2_split_25 : decode cX2_split 25 = .ok (.aload_n 0, 1) := by decide +kernel
theorem dX2_split_26 : decode cX2_split 26 = .ok (.getfield 21, 3) := by decide +kernel
theorem dX2_split_29 : decode cX2_split 29 = .ok (.iload_n 1, 1) := by decide +kernel
theorem dX2_split_30 : decode cX2_split 30 = .ok (.iconst 1, 1) := by decide +kernel
theorem dX2_split_31 : decode cX2_split 31 = .ok (.iadd, 1) := by decide +kernel
theorem dX2_split_32 : decode cX2_split 32 = .ok (.iload_n 2, 1) := by decide +kernel
theorem dX2_split_33 : decode cX2_split 33 = .ok (.iastore, 1) := by decide +kernel
theorem dX2_split_34 : decode cX2_split 34 = .ok (.aload_n 0, 1) := by decide +kernel
theorem dX2_split_35 : decode cX2_split 35 = .ok (.getfield 24, 3) := by decide +kernel
theorem dX2_split_38 : decode cX2_split 38 = .ok (.iload_n 1, 1) := by decide +kernel
theorem dX2_split_39 : decode cX2_split 39 = .ok (.aload_n 0, 1) := by decide +kernel
theorem dX2_split_40 : decode cX2_split 40 = .ok (.getfield 24, 3) := by decide +kernel
theorem dX2_split_43 : decode cX2_split 43 = .ok (.iload_n 1, 1) := by decide +kernel
theorem dX2_split_44 : decode cX2_split 44 = .ok (.iconst 1, 1) := by decide +kernel
theorem dX2_split_45 : decode cX2_split 45 = .ok (.iadd, 1) := by decide +kernel
theorem dX2_split_46 : decode cX2_split 46 = .ok (.iload_n 3, 1) := by decide +kernel
theorem dX2_split_47 : decode cX2_split 47 = .ok (.invokestatic 37, 3) := by decide +kernel
theorem dX2_split_50 : decode cX2_split 50 = .ok (.aload_n 0, 1) := by decide +kernel
theorem dX2_split_51 : decode cX2_split 51 = .ok (.getfield 27, 3) := by decide +kernel
theorem dX2_split_54 : decode cX2_split 54 = .ok (.iload_n 1, 1) := by decide +kernel
theorem dX2_split_55 : decode cX2_split 55 = .ok (.aload_n 0, 1) := by decide +kernel
theorem dX2_split_56 : decode cX2_split 56 = .ok (.getfield 27, 3) := by decide +kernel
theorem dX2_split_59 : decode cX2_split 59 = .ok (.iload_n 1, 1) := by decide +kernel
theorem dX2_split_60 : decode cX2_split 60 = .ok (.iconst 1, 1) := by decide +kernel
theorem dX2_split_61 : decode cX2_split 61 = .ok (.iadd, 1) := by decide +kernel
theorem dX2_split_62 : decode cX2_split 62 = .ok (.iload_n 3, 1) := by decide +kernel
theorem dX2_split_63 : decode cX2_split 63 = .ok (.invokestatic 37, 3) := by decide +kernel
theorem dX2_split_66 : decode cX2_split 66 = .ok (.aload_n 0, 1) := by decide +kernel
theorem dX2_split_67 : decode cX2_split 67 = .ok (.getfield 27, 3) := by decide +kernel
theorem dX2_split_70 : decode cX2_split 70 = .ok (.iload_n 1, 1) := by decide +kernel
theorem dX2_split_71 : decode cX2_split 71 = .ok (.iconst 1, 1) := by decide +kernel
theorem dX2_split_72 : decode cX2_split 72 = .ok (.iadd, 1) := by decide +kernel
theorem dX2_split_73 : decode cX2_split 73 = .ok (.dup2, 1) := by decide +kernel
theorem dX2_split_74 : decode cX2_split 74 = .ok (.iaload, 1) := by decide +kernel
theorem dX2_split_75 : decode cX2_split 75 = .ok (.iconst 1, 1) := by decide +kernel
theorem dX2_split_76 : decode cX2_split 76 = .ok (.iadd, 1) := by decide +kernel
theorem dX2_split_77 : decode cX2_split 77 = .ok (.iastore, 1) := by decide +kernel
theorem dX2_split_78 : decode cX2_split 78 = .ok (.aload_n 0, 1) := by decide +kernel
theorem dX2_split_79 : decode cX2_split 79 = .ok (.dup, 1) := by decide +kernel
theorem dX2_split_80 : decode cX2_split 80 = .ok (.getfield 43, 3) := by decide +kernel
theorem dX2_split_83 : decode cX2_split 83 = .ok (.iconst 1, 1) := by decide +kernel
theorem dX2_split_84 : decode cX2_split 84 = .ok (.iadd, 1) := by decide +kernel
theorem dX2_split_85 : decode cX2_split 85 = .ok (.putfield 43, 3) := by decide +kernel
theorem dX2_split_88 : decode cX2_split 88 = .ok (.return_, 1) := by decide +kernel
theorem dX2_heatBetween_0 : decode cX2_heatBetween 0 = .ok (.iconst 0, 1) := by decide +kernel
theorem dX2_heatBetween_1 : decode cX2_heatBetween 1 = .ok (.istore_n 3, 1) := by decide +kernel
theorem dX2_heatBetween_2 : decode cX2_heatBetween 2 = .ok (.iload_n 1, 1) := by decide +kernel
theorem dX2_heatBetween_3 : decode cX2_heatBetween 3 = .ok (.istore 4, 2) := by decide +kernel
theorem dX2_heatBetween_5 : decode cX2_heatBetween 5 = .ok (.iload 4, 2) := by decide +kernel
theorem dX2_heatBetween_7 : decode cX2_heatBetween 7 = .ok (.iload_n 2, 1) := by decide +kernel
theorem dX2_heatBetween_8 : decode cX2_heatBetween 8 = .ok (.if_icmp .ge 19, 3) := by decide +kernel
theorem dX2_heatBetween_11 : decode cX2_heatBetween 11 = .ok (.iload_n 3, 1) := by decide +kernel
theorem dX2_heatBetween_12 : decode cX2_heatBetween 12 = .ok (.aload_n 0, 1) := by decide +kernel
theorem dX2_heatBetween_13 : decode cX2_heatBetween 13 = .ok (.getfield 18, 3) := by decide +kernel
theorem dX2_heatBetween_16 : decode cX2_heatBetween 16 = .ok (.iload 4, 2) := by decide +kernel
theorem dX2_heatBetween_18 : decode cX2_heatBetween 18 = .ok (.iaload, 1) := by decide +kernel
theorem dX2_heatBetween_19 : decode cX2_heatBetween 19 = .ok (.iadd, 1) := by decide +kernel
theorem dX2_heatBetween_20 : decode cX2_heatBetween 20 = .ok (.istore_n 3, 1) := by decide +kernel
theorem dX2_heatBetween_21 : decode cX2_heatBetween 21 = .ok (.iinc 4 1, 3) := by decide +kernel
theorem dX2_heatBetween_24 : decode cX2_heatBetween 24 = .ok (.goto (-19), 3) := by decide +kernel
theorem dX2_heatBetween_27 : decode cX2_heatBetween 27 = .ok (.iload_n 3, 1) := by decide +kernel
theorem dX2_heatBetween_28 : decode cX2_heatBetween 28 = .ok (.ireturn, 1) := by decide +kernel
theorem dX2_heatOf_0 : decode cX2_heatOf 0 = .ok (.aload_n 0, 1) := by decide +kernel
theorem dX2_heatOf_1 : decode cX2_heatOf 1 = .ok (.aload_n 0, 1) := by decide +kernel
theorem dX2_heatOf_2 : decode cX2_heatOf 2 = .ok (.getfield 21, 3) := by decide +kernel
theorem dX2_heatOf_5 : decode cX2_heatOf 5 = .ok (.iload_n 1, 1) := by decide +kernel
theorem dX2_heatOf_6 : decode cX2_heatOf 6 = .ok (.iaload, 1) := by decide +kernel
theorem dX2_heatOf_7 : decode cX2_heatOf 7 = .ok (.aload_n 0, 1) := by decide +kernel
theorem dX2_heatOf_8 : decode cX2_heatOf 8 = .ok (.getfield 21, 3) := by decide +kernel
theorem dX2_heatOf_11 : decode cX2_heatOf 11 = .ok (.iload_n 1, 1) := by decide +kernel
theorem dX2_heatOf_12 : decode cX2_heatOf 12 = .ok (.iconst 1, 1) := by decide +kernel
theorem dX2_heatOf_13 : decode cX2_heatOf 13 = .ok (.iadd, 1) := by decide +kernel
theorem dX2_heatOf_14 : decode cX2_heatOf 14 = .ok (.iaload, 1) := by decide +kernel
theorem dX2_heatOf_15 : decode cX2_heatOf 15 = .ok (.invokevirtual 95, 3) := by decide +kernel
theorem dX2_heatOf_18 : decode cX2_heatOf 18 = .ok (.ireturn, 1) := by decide +kernel
theorem dX2_heatOfAll_0 : decode cX2_heatOfAll 0 = .ok (.aload_n 0, 1) := by decide +kernel
theorem dX2_heatOfAll_1 : decode cX2_heatOfAll 1 = .ok (.iconst 0, 1) := by decide +kernel
theorem dX2_heatOfAll_2 : decode cX2_heatOfAll 2 = .ok (.aload_n 0, 1) := by decide +kernel
theorem dX2_heatOfAll_3 : decode cX2_heatOfAll 3 = .ok (.invokevirtual 33, 3) := by decide +kernel
theorem dX2_heatOfAll_6 : decode cX2_heatOfAll 6 = .ok (.invokevirtual 95, 3) := by decide +kernel
theorem dX2_heatOfAll_9 : decode cX2_heatOfAll 9 = .ok (.ireturn, 1) := by decide +kernel
theorem dX2_timesBetween_0 : decode cX2_timesBetween 0 = .ok (.iconst 0, 1) := by decide +kernel
theorem dX2_timesBetween_1 : decode cX2_timesBetween 1 = .ok (.istore 4, 2) := by decide +kernel
theorem dX2_timesBetween_3 : decode cX2_timesBetween 3 = .ok (.iload_n 1, 1) := by decide +kernel
theorem dX2_timesBetween_4 : decode cX2_timesBetween 4 = .ok (.istore 5, 2) := by decide +kernel
theorem dX2_timesBetween_6 : decode cX2_timesBetween 6 = .ok (.iload 5, 2) := by decide +kernel
theorem dX2_timesBetween_8 : decode cX2_timesBetween 8 = .ok (.iload_n 2, 1) := by decide +kernel
theorem dX2_timesBetween_9 : decode cX2_timesBetween 9 = .ok (.if_icmp .ge 30, 3) := by decide +kernel
theorem dX2_timesBetween_12 : decode cX2_timesBetween 12 = .ok (.iload 4, 2) := by decide +kernel
theorem dX2_timesBetween_14 : decode cX2_timesBetween 14 = .ok (.aload_n 0, 1) := by decide +kernel
theorem dX2_timesBetween_15 : decode cX2_timesBetween 15 = .ok (.getfield 15, 3) := by decide +kernel
theorem dX2_timesBetween_18 : decode cX2_timesBetween 18 = .ok (.iload 5, 2) := by decide +kernel
theorem dX2_timesBetween_20 : decode cX2_timesBetween 20 = .ok (.iaload, 1) := by decide +kernel
theorem dX2_timesBetween_21 : decode cX2_timesBetween 21 = .ok (.iload_n 3, 1) := by decide +kernel
theorem dX2_timesBetween_22 : decode cX2_timesBetween 22 = .ok (.if_icmp .ne 7, 3) := by decide +kernel
theorem dX2_timesBetween_25 : decode cX2_timesBetween 25 = .ok (.iconst 1, 1) := by decide +kernel
theorem dX2_timesBetween_26 : decode cX2_timesBetween 26 = .ok (.goto 4, 3) := by decide +kernel
theorem dX2_timesBetween_29 : decode cX2_timesBetween 29 = .ok (.iconst 0, 1) := by decide +kernel
theorem dX2_timesBetween_30 : decode cX2_timesBetween 30 = .ok (.iadd, 1) := by decide +kernel
theorem dX2_timesBetween_31 : decode cX2_timesBetween 31 = .ok (.istore 4, 2) := by decide +kernel
theorem dX2_timesBetween_33 : decode cX2_timesBetween 33 = .ok (.iinc 5 1, 3) := by decide +kernel
theorem dX2_timesBetween_36 : decode cX2_timesBetween 36 = .ok (.goto (-30), 3) := by decide +kernel
theorem dX2_timesBetween_39 : decode cX2_timesBetween 39 = .ok (.iload 4, 2) := by decide +kernel
theorem dX2_timesBetween_41 : decode cX2_timesBetween 41 = .ok (.ireturn, 1) := by decide +kernel
theorem dX2_timesIn_0 : decode cX2_timesIn 0 = .ok (.aload_n 0, 1) := by decide +kernel
theorem dX2_timesIn_1 : decode cX2_timesIn 1 = .ok (.aload_n 0, 1) := by decide +kernel
theorem dX2_timesIn_2 : decode cX2_timesIn 2 = .ok (.getfield 21, 3) := by decide +kernel
theorem dX2_timesIn_5 : decode cX2_timesIn 5 = .ok (.iload_n 1, 1) := by decide +kernel
theorem dX2_timesIn_6 : decode cX2_timesIn 6 = .ok (.iaload, 1) := by decide +kernel
theorem dX2_timesIn_7 : decode cX2_timesIn 7 = .ok (.aload_n 0, 1) := by decide +kernel
theorem dX2_timesIn_8 : decode cX2_timesIn 8 = .ok (.getfield 21, 3) := by decide +kernel
theorem dX2_timesIn_11 : decode cX2_timesIn 11 = .ok (.iload_n 1, 1) := by decide +kernel
theorem dX2_timesIn_12 : decode cX2_timesIn 12 = .ok (.iconst 1, 1) := by decide +kernel
theorem dX2_timesIn_13 : decode cX2_timesIn 13 = .ok (.iadd, 1) := by decide +kernel
theorem dX2_timesIn_14 : decode cX2_timesIn 14 = .ok (.iaload, 1) := by decide +kernel
theorem dX2_timesIn_15 : decode cX2_timesIn 15 = .ok (.iload_n 2, 1) := by decide +kernel
theorem dX2_timesIn_16 : decode cX2_timesIn 16 = .ok (.invokevirtual 98, 3) := by decide +kernel
theorem dX2_timesIn_19 : decode cX2_timesIn 19 = .ok (.ireturn, 1) := by decide +kernel
theorem dX2_timesInAll_0 : decode cX2_timesInAll 0 = .ok (.aload_n 0, 1) := by decide +kernel
theorem dX2_timesInAll_1 : decode cX2_timesInAll 1 = .ok (.iconst 0, 1) := by decide +kernel
theorem dX2_timesInAll_2 : decode cX2_timesInAll 2 = .ok (.aload_n 0, 1) := by decide +kernel
theorem dX2_timesInAll_3 : decode cX2_timesInAll 3 = .ok (.invokevirtual 33, 3) := by decide +kernel
theorem dX2_timesInAll_6 : decode cX2_timesInAll 6 = .ok (.iload_n 1, 1) := by decide +kernel
theorem dX2_timesInAll_7 : decode cX2_timesInAll 7 = .ok (.invokevirtual 98, 3) := by decide +kernel
theorem dX2_timesInAll_10 : decode cX2_timesInAll 10 = .ok (.ireturn, 1) := by decide +kernel
theorem dX2_tallyOf_0 : decode cX2_tallyOf 0 = .ok (.aload_n 0, 1) := by decide +kernel
theorem dX2_tallyOf_1 : decode cX2_tallyOf 1 = .ok (.getfield 30, 3) := by decide +kernel
theorem dX2_tallyOf_4 : decode cX2_tallyOf 4 = .ok (.iconst 0, 1) := by decide +kernel
theorem dX2_tallyOf_5 : decode cX2_tallyOf 5 = .ok (.invokestatic 102, 3) := by decide +kernel
theorem dX2_tallyOf_8 : decode cX2_tallyOf 8 = .ok (.aload_n 0, 1) := by decide +kernel
theorem dX2_tallyOf_9 : decode cX2_tallyOf 9 = .ok (.getfield 21, 3) := by decide +kernel
theorem dX2_tallyOf_12 : decode cX2_tallyOf 12 = .ok (.iload_n 1, 1) := by decide +kernel
theorem dX2_tallyOf_13 : decode cX2_tallyOf 13 = .ok (.iaload, 1) := by decide +kernel
theorem dX2_tallyOf_14 : decode cX2_tallyOf 14 = .ok (.istore_n 2, 1) := by decide +kernel
theorem dX2_tallyOf_15 : decode cX2_tallyOf 15 = .ok (.iload_n 2, 1) := by decide +kernel
theorem dX2_tallyOf_16 : decode cX2_tallyOf 16 = .ok (.aload_n 0, 1) := by decide +kernel
theorem dX2_tallyOf_17 : decode cX2_tallyOf 17 = .ok (.getfield 21, 3) := by decide +kernel
theorem dX2_tallyOf_20 : decode cX2_tallyOf 20 = .ok (.iload_n 1, 1) := by decide +kernel
theorem dX2_tallyOf_21 : decode cX2_tallyOf 21 = .ok (.iconst 1, 1) := by decide +kernel
theorem dX2_tallyOf_22 : decode cX2_tallyOf 22 = .ok (.iadd, 1) := by decide +kernel
theorem dX2_tallyOf_23 : decode cX2_tallyOf 23 = .ok (.iaload, 1) := by decide +kernel
theorem dX2_tallyOf_24 : decode cX2_tallyOf 24 = .ok (.if_icmp .ge 24, 3) := by decide +kernel
theorem dX2_tallyOf_27 : decode cX2_tallyOf 27 = .ok (.aload_n 0, 1) := by decide +kernel
theorem dX2_tallyOf_28 : decode cX2_tallyOf 28 = .ok (.getfield 30, 3) := by decide +kernel
theorem dX2_tallyOf_31 : decode cX2_tallyOf 31 = .ok (.aload_n 0, 1) := by decide +kernel
theorem dX2_tallyOf_32 : decode cX2_tallyOf 32 = .ok (.getfield 15, 3) := by decide +kernel
theorem dX2_tallyOf_35 : decode cX2_tallyOf 35 = .ok (.iload_n 2, 1) := by decide +kernel
theorem dX2_tallyOf_36 : decode cX2_tallyOf 36 = .ok (.iaload, 1) := by decide +kernel
theorem dX2_tallyOf_37 : decode cX2_tallyOf 37 = .ok (.dup2, 1) := by decide +kernel
theorem dX2_tallyOf_38 : decode cX2_tallyOf 38 = .ok (.iaload, 1) := by decide +kernel
theorem dX2_tallyOf_39 : decode cX2_tallyOf 39 = .ok (.iconst 1, 1) := by decide +kernel
theorem dX2_tallyOf_40 : decode cX2_tallyOf 40 = .ok (.iadd, 1) := by decide +kernel
theorem dX2_tallyOf_41 : decode cX2_tallyOf 41 = .ok (.iastore, 1) := by decide +kernel
theorem dX2_tallyOf_42 : decode cX2_tallyOf 42 = .ok (.iinc 2 1, 3) := by decide +kernel
theorem dX2_tallyOf_45 : decode cX2_tallyOf 45 = .ok (.goto (-30), 3) := by decide +kernel
theorem dX2_tallyOf_48 : decode cX2_tallyOf 48 = .ok (.return_, 1) := by decide +kernel
theorem dX2_themeOf_0 : decode cX2_themeOf 0 = .ok (.aload_n 0, 1) := by decide +kernel
theorem dX2_themeOf_1 : decode cX2_themeOf 1 = .ok (.iload_n 1, 1) := by decide +kernel
theorem dX2_themeOf_2 : decode cX2_themeOf 2 = .ok (.invokevirtual 108, 3) := by decide +kernel
theorem dX2_themeOf_5 : decode cX2_themeOf 5 = .ok (.iconst 0, 1) := by decide +kernel
theorem dX2_themeOf_6 : decode cX2_themeOf 6 = .ok (.istore_n 2, 1) := by decide +kernel
theorem dX2_themeOf_7 : decode cX2_themeOf 7 = .ok (.iconst 1, 1) := by decide +kernel
theorem dX2_themeOf_8 : decode cX2_themeOf 8 = .ok (.istore_n 3, 1) := by decide +kernel
theorem dX2_themeOf_9 : decode cX2_themeOf 9 = .ok (.iload_n 3, 1) := by decide +kernel
theorem dX2_themeOf_10 : decode cX2_themeOf 10 = .ok (.bipush 26, 2) := by decide +kernel
theorem dX2_themeOf_12 : decode cX2_themeOf 12 = .ok (.if_icmp .ge 30, 3) := by decide +kernel
theorem dX2_themeOf_15 : decode cX2_themeOf 15 = .ok (.aload_n 0, 1) := by decide +kernel
theorem dX2_themeOf_16 : decode cX2_themeOf 16 = .ok (.getfield 30, 3) := by decide +kernel
theorem dX2_themeOf_19 : decode cX2_themeOf 19 = .ok (.iload_n 3, 1) := by decide +kernel
theorem dX2_themeOf_20 : decode cX2_themeOf 20 = .ok (.iaload, 1) := by decide +kernel
theorem dX2_themeOf_21 : decode cX2_themeOf 21 = .ok (.aload_n 0, 1) := by decide +kernel
theorem dX2_themeOf_22 : decode cX2_themeOf 22 = .ok (.getfield 30, 3) := by decide +kernel
theorem dX2_themeOf_25 : decode cX2_themeOf 25 = .ok (.iload_n 2, 1) := by decide +kernel
theorem dX2_themeOf_26 : decode cX2_themeOf 26 = .ok (.iaload, 1) := by decide +kernel
theorem dX2_themeOf_27 : decode cX2_themeOf 27 = .ok (.if_icmp .le 7, 3) := by decide +kernel
theorem dX2_themeOf_30 : decode cX2_themeOf 30 = .ok (.iload_n 3, 1) := by decide +kernel
theorem dX2_themeOf_31 : decode cX2_themeOf 31 = .ok (.goto 4, 3) := by decide +kernel
theorem dX2_themeOf_34 : decode cX2_themeOf 34 = .ok (.iload_n 2, 1) := by decide +kernel
theorem dX2_themeOf_35 : decode cX2_themeOf 35 = .ok (.istore_n 2, 1) := by decide +kernel
theorem dX2_themeOf_36 : decode cX2_themeOf 36 = .ok (.iinc 3 1, 3) := by decide +kernel
theorem dX2_themeOf_39 : decode cX2_themeOf 39 = .ok (.goto (-30), 3) := by decide +kernel
theorem dX2_themeOf_42 : decode cX2_themeOf 42 = .ok (.iload_n 2, 1) := by decide +kernel
theorem dX2_themeOf_43 : decode cX2_themeOf 43 = .ok (.ireturn, 1) := by decide +kernel
theorem dX2_unlikeLettersOf_0 : decode cX2_unlikeLettersOf 0 = .ok (.aload_n 0, 1) := by decide +kernel
theorem dX2_unlikeLettersOf_1 : decode cX2_unlikeLettersOf 1 = .ok (.iload_n 1, 1) := by decide +kernel
theorem dX2_unlikeLettersOf_2 : decode cX2_unlikeLettersOf 2 = .ok (.invokevirtual 108, 3) := by decide +kernel
theorem dX2_unlikeLettersOf_5 : decode cX2_unlikeLettersOf 5 = .ok (.iconst 0, 1) := by decide +kernel
theorem dX2_unlikeLettersOf_6 : decode cX2_unlikeLettersOf 6 = .ok (.istore_n 2, 1) := by decide +kernel
theorem dX2_unlikeLettersOf_7 : decode cX2_unlikeLettersOf 7 = .ok (.iconst 0, 1) := by decide +kernel
theorem dX2_unlikeLettersOf_8 : decode cX2_unlikeLettersOf 8 = .ok (.istore_n 3, 1) := by decide +kernel
theorem dX2_unlikeLettersOf_9 : decode cX2_unlikeLettersOf 9 = .ok (.iload_n 3, 1) := by decide +kernel
theorem dX2_unlikeLettersOf_10 : decode cX2_unlikeLettersOf 10 = .ok (.bipush 26, 2) := by decide +kernel
theorem dX2_unlikeLettersOf_12 : decode cX2_unlikeLettersOf 12 = .ok (.if_icmp .ge 26, 3) := by decide +kernel
theorem dX2_unlikeLettersOf_15 : decode cX2_unlikeLettersOf 15 = .ok (.iload_n 2, 1) := by decide +kernel
theorem dX2_unlikeLettersOf_16 : decode cX2_unlikeLettersOf 16 = .ok (.aload_n 0, 1) := by decide +kernel
theorem dX2_unlikeLettersOf_17 : decode cX2_unlikeLettersOf 17 = .ok (.getfield 30, 3) := by decide +kernel
theorem dX2_unlikeLettersOf_20 : decode cX2_unlikeLettersOf 20 = .ok (.iload_n 3, 1) := by decide +kernel
theorem dX2_unlikeLettersOf_21 : decode cX2_unlikeLettersOf 21 = .ok (.iaload, 1) := by decide +kernel
theorem dX2_unlikeLettersOf_22 : decode cX2_unlikeLettersOf 22 = .ok (.ifCond .le 7, 3) := by decide +kernel
theorem dX2_unlikeLettersOf_25 : decode cX2_unlikeLettersOf 25 = .ok (.iconst 1, 1) := by decide +kernel
theorem dX2_unlikeLettersOf_26 : decode cX2_unlikeLettersOf 26 = .ok (.goto 4, 3) := by decide +kernel
theorem dX2_unlikeLettersOf_29 : decode cX2_unlikeLettersOf 29 = .ok (.iconst 0, 1) := by decide +kernel
theorem dX2_unlikeLettersOf_30 : decode cX2_unlikeLettersOf 30 = .ok (.iadd, 1) := by decide +kernel
theorem dX2_unlikeLettersOf_31 : decode cX2_unlikeLettersOf 31 = .ok (.istore_n 2, 1) := by decide +kernel
theorem dX2_unlikeLettersOf_32 : decode cX2_unlikeLettersOf 32 = .ok (.iinc 3 1, 3) := by decide +kernel
theorem dX2_unlikeLettersOf_35 : decode cX2_unlikeLettersOf 35 = .ok (.goto (-26), 3) := by decide +kernel
theorem dX2_unlikeLettersOf_38 : decode cX2_unlikeLettersOf 38 = .ok (.iload_n 2, 1) := by decide +kernel
theorem dX2_unlikeLettersOf_39 : decode cX2_unlikeLettersOf 39 = .ok (.ireturn, 1) := by decide +kernel
theorem dX2_hottestOf_0 : decode cX2_hottestOf 0 = .ok (.aload_n 0, 1) := by decide +kernel
theorem dX2_hottestOf_1 : decode cX2_hottestOf 1 = .ok (.getfield 21, 3) := by decide +kernel
theorem dX2_hottestOf_4 : decode cX2_hottestOf 4 = .ok (.iload_n 1, 1) := by decide +kernel
theorem dX2_hottestOf_5 : decode cX2_hottestOf 5 = .ok (.iaload, 1) := by decide +kernel
theorem dX2_hottestOf_6 : decode cX2_hottestOf 6 = .ok (.istore_n 2, 1) := by decide +kernel
theorem dX2_hottestOf_7 : decode cX2_hottestOf 7 = .ok (.aload_n 0, 1) := by decide +kernel
theorem dX2_hottestOf_8 : decode cX2_hottestOf 8 = .ok (.getfield 21, 3) := by decide +kernel
theorem dX2_hottestOf_11 : decode cX2_hottestOf 11 = .ok (.iload_n 1, 1) := by decide +kernel
theorem dX2_hottestOf_12 : decode cX2_hottestOf 12 = .ok (.iaload, 1) := by decide +kernel
theorem dX2_hottestOf_13 : decode cX2_hottestOf 13 = .ok (.istore_n 3, 1) := by decide +kernel
theorem dX2_hottestOf_14 : decode cX2_hottestOf 14 = .ok (.iload_n 3, 1) := by decide +kernel
theorem dX2_hottestOf_15 : decode cX2_hottestOf 15 = .ok (.aload_n 0, 1) := by decide +kernel
theorem dX2_hottestOf_16 : decode cX2_hottestOf 16 = .ok (.getfield 21, 3) := by decide +kernel
theorem dX2_hottestOf_19 : decode cX2_hottestOf 19 = .ok (.iload_n 1, 1) := by decide +kernel
theorem dX2_hottestOf_20 : decode cX2_hottestOf 20 = .ok (.iconst 1, 1) := by decide +kernel
theorem dX2_hottestOf_21 : decode cX2_hottestOf 21 = .ok (.iadd, 1) := by decide +kernel
theorem dX2_hottestOf_22 : decode cX2_hottestOf 22 = .ok (.iaload, 1) := by decide +kernel
theorem dX2_hottestOf_23 : decode cX2_hottestOf 23 = .ok (.if_icmp .ge 30, 3) := by decide +kernel
theorem dX2_hottestOf_26 : decode cX2_hottestOf 26 = .ok (.aload_n 0, 1) := by decide +kernel
theorem dX2_hottestOf_27 : decode cX2_hottestOf 27 = .ok (.getfield 18, 3) := by decide +kernel
theorem dX2_hottestOf_30 : decode cX2_hottestOf 30 = .ok (.iload_n 3, 1) := by decide +kernel
theorem dX2_hottestOf_31 : decode cX2_hottestOf 31 = .ok (.iaload, 1) := by decide +kernel
theorem dX2_hottestOf_32 : decode cX2_hottestOf 32 = .ok (.aload_n 0, 1) := by decide +kernel
theorem dX2_hottestOf_33 : decode cX2_hottestOf 33 = .ok (.getfield 18, 3) := by decide +kernel
theorem dX2_hottestOf_36 : decode cX2_hottestOf 36 = .ok (.iload_n 2, 1) := by decide +kernel
theorem dX2_hottestOf_37 : decode cX2_hottestOf 37 = .ok (.iaload, 1) := by decide +kernel
theorem dX2_hottestOf_38 : decode cX2_hottestOf 38 = .ok (.if_icmp .le 7, 3) := by decide +kernel
theorem dX2_hottestOf_41 : decode cX2_hottestOf 41 = .ok (.iload_n 3, 1) := by decide +kernel
theorem dX2_hottestOf_42 : decode cX2_hottestOf 42 = .ok (.goto 4, 3) := by decide +kernel
theorem dX2_hottestOf_45 : decode cX2_hottestOf 45 = .ok (.iload_n 2, 1) := by decide +kernel
theorem dX2_hottestOf_46 : decode cX2_hottestOf 46 = .ok (.istore_n 2, 1) := by decide +kernel
theorem dX2_hottestOf_47 : decode cX2_hottestOf 47 = .ok (.iinc 3 1, 3) := by decide +kernel
theorem dX2_hottestOf_50 : decode cX2_hottestOf 50 = .ok (.goto (-36), 3) := by decide +kernel
theorem dX2_hottestOf_53 : decode cX2_hottestOf 53 = .ok (.iload_n 2, 1) := by decide +kernel
theorem dX2_hottestOf_54 : decode cX2_hottestOf 54 = .ok (.aload_n 0, 1) := by decide +kernel
theorem dX2_hottestOf_55 : decode cX2_hottestOf 55 = .ok (.getfield 21, 3) := by decide +kernel
theorem dX2_hottestOf_58 : decode cX2_hottestOf 58 = .ok (.iload_n 1, 1) := by decide +kernel
theorem dX2_hottestOf_59 : decode cX2_hottestOf 59 = .ok (.iaload, 1) := by decide +kernel
theorem dX2_hottestOf_60 : decode cX2_hottestOf 60 = .ok (.isub, 1) := by decide +kernel
theorem dX2_hottestOf_61 : decode cX2_hottestOf 61 = .ok (.ireturn, 1) := by decide +kernel
theorem dX2_readsFromBothEnds_0 : decode cX2_readsFromBothEnds 0 = .ok (.aload_n 0, 1) := by decide +kernel
theorem dX2_readsFromBothEnds_1 : decode cX2_readsFromBothEnds 1 = .ok (.getfield 21, 3) := by decide +kernel
theorem dX2_readsFromBothEnds_4 : decode cX2_readsFromBothEnds 4 = .ok (.iload_n 1, 1) := by decide +kernel
theorem dX2_readsFromBothEnds_5 : decode cX2_readsFromBothEnds 5 = .ok (.iconst 1, 1) := by decide +kernel
theorem dX2_readsFromBothEnds_6 : decode cX2_readsFromBothEnds 6 = .ok (.iadd, 1) := by decide +kernel
theorem dX2_readsFromBothEnds_7 : decode cX2_readsFromBothEnds 7 = .ok (.iaload, 1) := by decide +kernel
theorem dX2_readsFromBothEnds_8 : decode cX2_readsFromBothEnds 8 = .ok (.iconst 1, 1) := by decide +kernel
theorem dX2_readsFromBothEnds_9 : decode cX2_readsFromBothEnds 9 = .ok (.isub, 1) := by decide +kernel
theorem dX2_readsFromBothEnds_10 : decode cX2_readsFromBothEnds 10 = .ok (.istore_n 2, 1) := by decide +kernel
theorem dX2_readsFromBothEnds_11 : decode cX2_readsFromBothEnds 11 = .ok (.iconst 0, 1) := by decide +kernel
theorem dX2_readsFromBothEnds_12 : decode cX2_readsFromBothEnds 12 = .ok (.istore_n 3, 1) := by decide +kernel
theorem dX2_readsFromBothEnds_13 : decode cX2_readsFromBothEnds 13 = .ok (.iload_n 3, 1) := by decide +kernel
theorem dX2_readsFromBothEnds_14 : decode cX2_readsFromBothEnds 14 = .ok (.aload_n 0, 1) := by decide +kernel
theorem dX2_readsFromBothEnds_15 : decode cX2_readsFromBothEnds 15 = .ok (.iload_n 1, 1) := by decide +kernel
theorem dX2_readsFromBothEnds_16 : decode cX2_readsFromBothEnds 16 = .ok (.invokevirtual 67, 3) := by decide +kernel
theorem dX2_readsFromBothEnds_19 : decode cX2_readsFromBothEnds 19 = .ok (.iconst 2, 1) := by decide +kernel
theorem dX2_readsFromBothEnds_20 : decode cX2_readsFromBothEnds 20 = .ok (.idiv, 1) := by decide +kernel
theorem dX2_readsFromBothEnds_21 : decode cX2_readsFromBothEnds 21 = .ok (.if_icmp .ge 35, 3) := by decide +kernel
theorem dX2_readsFromBothEnds_24 : decode cX2_readsFromBothEnds 24 = .ok (.aload_n 0, 1) := by decide +kernel
theorem dX2_readsFromBothEnds_25 : decode cX2_readsFromBothEnds 25 = .ok (.getfield 15, 3) := by decide +kernel
theorem dX2_readsFromBothEnds_28 : decode cX2_readsFromBothEnds 28 = .ok (.aload_n 0, 1) := by decide +kernel
theorem dX2_readsFromBothEnds_29 : decode cX2_readsFromBothEnds 29 = .ok (.getfield 21, 3) := by decide +kernel
theorem dX2_readsFromBothEnds_32 : decode cX2_readsFromBothEnds 32 = .ok (.iload_n 1, 1) := by decide +kernel
theorem dX2_readsFromBothEnds_33 : decode cX2_readsFromBothEnds 33 = .ok (.iaload, 1) := by decide +kernel
theorem dX2_readsFromBothEnds_34 : decode cX2_readsFromBothEnds 34 = .ok (.iload_n 3, 1) := by decide +kernel
theorem dX2_readsFromBothEnds_35 : decode cX2_readsFromBothEnds 35 = .ok (.iadd, 1) := by decide +kernel
theorem dX2_readsFromBothEnds_36 : decode cX2_readsFromBothEnds 36 = .ok (.iaload, 1) := by decide +kernel
theorem dX2_readsFromBothEnds_37 : decode cX2_readsFromBothEnds 37 = .ok (.aload_n 0, 1) := by decide +kernel
theorem dX2_readsFromBothEnds_38 : decode cX2_readsFromBothEnds 38 = .ok (.getfield 15, 3) := by decide +kernel
theorem dX2_readsFromBothEnds_41 : decode cX2_readsFromBothEnds 41 = .ok (.iload_n 2, 1) := by decide +kernel
theorem dX2_readsFromBothEnds_42 : decode cX2_readsFromBothEnds 42 = .ok (.iload_n 3, 1) := by decide +kernel
theorem dX2_readsFromBothEnds_43 : decode cX2_readsFromBothEnds 43 = .ok (.isub, 1) := by decide +kernel
theorem dX2_readsFromBothEnds_44 : decode cX2_readsFromBothEnds 44 = .ok (.iaload, 1) := by decide +kernel
theorem dX2_readsFromBothEnds_45 : decode cX2_readsFromBothEnds 45 = .ok (.if_icmp .eq 5, 3) := by decide +kernel
theorem dX2_readsFromBothEnds_48 : decode cX2_readsFromBothEnds 48 = .ok (.iconst 0, 1) := by decide +kernel
theorem dX2_readsFromBothEnds_49 : decode cX2_readsFromBothEnds 49 = .ok (.ireturn, 1) := by decide +kernel
theorem dX2_readsFromBothEnds_50 : decode cX2_readsFromBothEnds 50 = .ok (.iinc 3 1, 3) := by decide +kernel
theorem dX2_readsFromBothEnds_53 : decode cX2_readsFromBothEnds 53 = .ok (.goto (-40), 3) := by decide +kernel
theorem dX2_readsFromBothEnds_56 : decode cX2_readsFromBothEnds 56 = .ok (.iconst 1, 1) := by decide +kernel
theorem dX2_readsFromBothEnds_57 : decode cX2_readsFromBothEnds 57 = .ok (.ireturn, 1) := by decide +kernel
theorem dX2_unlikeFamilies_0 : decode cX2_unlikeFamilies 0 = .ok (.iconst 0, 1) := by decide +kernel
theorem dX2_unlikeFamilies_1 : decode cX2_unlikeFamilies 1 = .ok (.istore_n 1, 1) := by decide +kernel
theorem dX2_unlikeFamilies_2 : decode cX2_unlikeFamilies 2 = .ok (.iconst 0, 1) := by decide +kernel
theorem dX2_unlikeFamilies_3 : decode cX2_unlikeFamilies 3 = .ok (.istore_n 2, 1) := by decide +kernel
theorem dX2_unlikeFamilies_4 : decode cX2_unlikeFamilies 4 = .ok (.iload_n 2, 1) := by decide +kernel
theorem dX2_unlikeFamilies_5 : decode cX2_unlikeFamilies 5 = .ok (.aload_n 0, 1) := by decide +kernel
theorem dX2_unlikeFamilies_6 : decode cX2_unlikeFamilies 6 = .ok (.getfield 43, 3) := by decide +kernel
theorem dX2_unlikeFamilies_9 : decode cX2_unlikeFamilies 9 = .ok (.if_icmp .ge 25, 3) := by decide +kernel
theorem dX2_unlikeFamilies_12 : decode cX2_unlikeFamilies 12 = .ok (.iload_n 1, 1) := by decide +kernel
theorem dX2_unlikeFamilies_13 : decode cX2_unlikeFamilies 13 = .ok (.aload_n 0, 1) := by decide +kernel
theorem dX2_unlikeFamilies_14 : decode cX2_unlikeFamilies 14 = .ok (.iload_n 2, 1) := by decide +kernel
theorem dX2_unlikeFamilies_15 : decode cX2_unlikeFamilies 15 = .ok (.invokevirtual 111, 3) := by decide +kernel
theorem dX2_unlikeFamilies_18 : decode cX2_unlikeFamilies 18 = .ok (.ifCond .eq 7, 3) := by decide +kernel
theorem dX2_unlikeFamilies_21 : decode cX2_unlikeFamilies 21 = .ok (.iconst 1, 1) := by decide +kernel
theorem dX2_unlikeFamilies_22 : decode cX2_unlikeFamilies 22 = .ok (.goto 4, 3) := by decide +kernel
theorem dX2_unlikeFamilies_25 : decode cX2_unlikeFamilies 25 = .ok (.iconst 0, 1) := by decide +kernel
theorem dX2_unlikeFamilies_26 : decode cX2_unlikeFamilies 26 = .ok (.iadd, 1) := by decide +kernel
theorem dX2_unlikeFamilies_27 : decode cX2_unlikeFamilies 27 = .ok (.istore_n 1, 1) := by decide +kernel
theorem dX2_unlikeFamilies_28 : decode cX2_unlikeFamilies 28 = .ok (.iinc 2 1, 3) := by decide +kernel
theorem dX2_unlikeFamilies_31 : decode cX2_unlikeFamilies 31 = .ok (.goto (-27), 3) := by decide +kernel
theorem dX2_unlikeFamilies_34 : decode cX2_unlikeFamilies 34 = .ok (.iload_n 1, 1) := by decide +kernel
theorem dX2_unlikeFamilies_35 : decode cX2_unlikeFamilies 35 = .ok (.ireturn, 1) := by decide +kernel
theorem dX2_isFirstOfFamily_0 : decode cX2_isFirstOfFamily 0 = .ok (.iconst 0, 1) := by decide +kernel
theorem dX2_isFirstOfFamily_1 : decode cX2_isFirstOfFamily 1 = .ok (.istore_n 2, 1) := by decide +kernel
theorem dX2_isFirstOfFamily_2 : decode cX2_isFirstOfFamily 2 = .ok (.iload_n 2, 1) := by decide +kernel
theorem dX2_isFirstOfFamily_3 : decode cX2_isFirstOfFamily 3 = .ok (.iload_n 1, 1) := by decide +kernel
theorem dX2_isFirstOfFamily_4 : decode cX2_isFirstOfFamily 4 = .ok (.if_icmp .ge 26, 3) := by decide +kernel
theorem dX2_isFirstOfFamily_7 : decode cX2_isFirstOfFamily 7 = .ok (.aload_n 0, 1) := by decide +kernel
theorem dX2_isFirstOfFamily_8 : decode cX2_isFirstOfFamily 8 = .ok (.getfield 24, 3) := by decide +kernel
theorem dX2_isFirstOfFamily_11 : decode cX2_isFirstOfFamily 11 = .ok (.iload_n 2, 1) := by decide +kernel
theorem dX2_isFirstOfFamily_12 : decode cX2_isFirstOfFamily 12 = .ok (.iaload, 1) := by decide +kernel
theorem dX2_isFirstOfFamily_13 : decode cX2_isFirstOfFamily 13 = .ok (.aload_n 0, 1) := by decide +kernel
theorem dX2_isFirstOfFamily_14 : decode cX2_isFirstOfFamily 14 = .ok (.getfield 24, 3) := by decide +kernel
theorem dX2_isFirstOfFamily_17 : decode cX2_isFirstOfFamily 17 = .ok (.iload_n 1, 1) := by decide +kernel
theorem dX2_isFirstOfFamily_18 : decode cX2_isFirstOfFamily 18 = .ok (.iaload, 1) := by decide +kernel
theorem dX2_isFirstOfFamily_19 : decode cX2_isFirstOfFamily 19 = .ok (.if_icmp .ne 5, 3) := by decide +kernel
theorem dX2_isFirstOfFamily_22 : decode cX2_isFirstOfFamily 22 = .ok (.iconst 0, 1) := by decide +kernel
theorem dX2_isFirstOfFamily_23 : decode cX2_isFirstOfFamily 23 = .ok (.ireturn, 1) := by decide +kernel
theorem dX2_isFirstOfFamily_24 : decode cX2_isFirstOfFamily 24 = .ok (.iinc 2 1, 3) := by decide +kernel
theorem dX2_isFirstOfFamily_27 : decode cX2_isFirstOfFamily 27 = .ok (.goto (-25), 3) := by decide +kernel
theorem dX2_isFirstOfFamily_30 : decode cX2_isFirstOfFamily 30 = .ok (.iconst 1, 1) := by decide +kernel
theorem dX2_isFirstOfFamily_31 : decode cX2_isFirstOfFamily 31 = .ok (.ireturn, 1) := by decide +kernel
theorem dX2_greatestGeneration_0 : decode cX2_greatestGeneration 0 = .ok (.bipush (-6), 2) := by decide +kernel
theorem dX2_greatestGeneration_2 : decode cX2_greatestGeneration 2 = .ok (.istore_n 1, 1) := by decide +kernel
theorem dX2_greatestGeneration_3 : decode cX2_greatestGeneration 3 = .ok (.iconst 0, 1) := by decide +kernel
theorem dX2_greatestGeneration_4 : decode cX2_greatestGeneration 4 = .ok (.istore_n 2, 1) := by decide +kernel
theorem dX2_greatestGeneration_5 : decode cX2_greatestGeneration 5 = .ok (.iload_n 2, 1) := by decide +kernel
theorem dX2_greatestGeneration_6 : decode cX2_greatestGeneration 6 = .ok (.aload_n 0, 1) := by decide +kernel
theorem dX2_greatestGeneration_7 : decode cX2_greatestGeneration 7 = .ok (.getfield 43, 3) := by decide +kernel
theorem dX2_greatestGeneration_10 : decode cX2_greatestGeneration 10 = .ok (.if_icmp .ge 20, 3) := by decide +kernel
theorem dX2_greatestGeneration_13 : decode cX2_greatestGeneration 13 = .ok (.iload_n 1, 1) := by decide +kernel
theorem dX2_greatestGeneration_14 : decode cX2_greatestGeneration 14 = .ok (.aload_n 0, 1) := by decide +kernel
theorem dX2_greatestGeneration_15 : decode cX2_greatestGeneration 15 = .ok (.getfield 27, 3) := by decide +kernel
theorem dX2_greatestGeneration_18 : decode cX2_greatestGeneration 18 = .ok (.iload_n 2, 1) := by decide +kernel
theorem dX2_greatestGeneration_19 : decode cX2_greatestGeneration 19 = .ok (.iaload, 1) := by decide +kernel
theorem dX2_greatestGeneration_20 : decode cX2_greatestGeneration 20 = .ok (.invokestatic 85, 3) := by decide +kernel
theorem dX2_greatestGeneration_23 : decode cX2_greatestGeneration 23 = .ok (.istore_n 1, 1) := by decide +kernel
theorem dX2_greatestGeneration_24 : decode cX2_greatestGeneration 24 = .ok (.iinc 2 1, 3) := by decide +kernel
theorem dX2_greatestGeneration_27 : decode cX2_greatestGeneration 27 = .ok (.goto (-22), 3) := by decide +kernel
theorem dX2_greatestGeneration_30 : decode cX2_greatestGeneration 30 = .ok (.iload_n 1, 1) := by decide +kernel
theorem dX2_greatestGeneration_31 : decode cX2_greatestGeneration 31 = .ok (.ireturn, 1) := by decide +kernel
theorem dX2_storiesWith_0 : decode cX2_storiesWith 0 = .ok (.iconst 0, 1) := by decide +kernel
theorem dX2_storiesWith_1 : decode cX2_storiesWith 1 = .ok (.istore_n 2, 1) := by decide +kernel
theorem dX2_storiesWith_2 : decode cX2_storiesWith 2 = .ok (.iconst 0, 1) := by decide +kernel
theorem dX2_storiesWith_3 : decode cX2_storiesWith 3 = .ok (.istore_n 3, 1) := by decide +kernel
theorem dX2_storiesWith_4 : decode cX2_storiesWith 4 = .ok (.iload_n 3, 1) := by decide +kernel
theorem dX2_storiesWith_5 : decode cX2_storiesWith 5 = .ok (.aload_n 0, 1) := by decide +kernel
theorem dX2_storiesWith_6 : decode cX2_storiesWith 6 = .ok (.getfield 43, 3) := by decide +kernel
theorem dX2_storiesWith_9 : decode cX2_storiesWith 9 = .ok (.if_icmp .ge 26, 3) := by decide +kernel
theorem dX2_storiesWith_12 : decode cX2_storiesWith 12 = .ok (.iload_n 2, 1) := by decide +kernel
theorem dX2_storiesWith_13 : decode cX2_storiesWith 13 = .ok (.aload_n 0, 1) := by decide +kernel
theorem dX2_storiesWith_14 : decode cX2_storiesWith 14 = .ok (.iload_n 3, 1) := by decide +kernel
theorem dX2_storiesWith_15 : decode cX2_storiesWith 15 = .ok (.iload_n 1, 1) := by decide +kernel
theorem dX2_storiesWith_16 : decode cX2_storiesWith 16 = .ok (.invokevirtual 114, 3) := by decide +kernel
theorem dX2_storiesWith_19 : decode cX2_storiesWith 19 = .ok (.ifCond .le 7, 3) := by decide +kernel
theorem dX2_storiesWith_22 : decode cX2_storiesWith 22 = .ok (.iconst 1, 1) := by decide +kernel
theorem dX2_storiesWith_23 : decode cX2_storiesWith 23 = .ok (.goto 4, 3) := by decide +kernel
theorem dX2_storiesWith_26 : decode cX2_storiesWith 26 = .ok (.iconst 0, 1) := by decide +kernel
theorem dX2_storiesWith_27 : decode cX2_storiesWith 27 = .ok (.iadd, 1) := by decide +kernel
theorem dX2_storiesWith_28 : decode cX2_storiesWith 28 = .ok (.istore_n 2, 1) := by decide +kernel
theorem dX2_storiesWith_29 : decode cX2_storiesWith 29 = .ok (.iinc 3 1, 3) := by decide +kernel
theorem dX2_storiesWith_32 : decode cX2_storiesWith 32 = .ok (.goto (-28), 3) := by decide +kernel
theorem dX2_storiesWith_35 : decode cX2_storiesWith 35 = .ok (.iload_n 2, 1) := by decide +kernel
theorem dX2_storiesWith_36 : decode cX2_storiesWith 36 = .ok (.ireturn, 1) := by decide +kernel
theorem dX2_storiesOfTheme_0 : decode cX2_storiesOfTheme 0 = .ok (.iconst 0, 1) := by decide +kernel
theorem dX2_storiesOfTheme_1 : decode cX2_storiesOfTheme 1 = .ok (.istore_n 2, 1) := by decide +kernel
theorem dX2_storiesOfTheme_2 : decode cX2_storiesOfTheme 2 = .ok (.iconst 0, 1) := by decide +kernel
theorem dX2_storiesOfTheme_3 : decode cX2_storiesOfTheme 3 = .ok (.istore_n 3, 1) := by decide +kernel
theorem dX2_storiesOfTheme_4 : decode cX2_storiesOfTheme 4 = .ok (.iload_n 3, 1) := by decide +kernel
theorem dX2_storiesOfTheme_5 : decode cX2_storiesOfTheme 5 = .ok (.aload_n 0, 1) := by decide +kernel
theorem dX2_storiesOfTheme_6 : decode cX2_storiesOfTheme 6 = .ok (.getfield 43, 3) := by decide +kernel
theorem dX2_storiesOfTheme_9 : decode cX2_storiesOfTheme 9 = .ok (.if_icmp .ge 26, 3) := by decide +kernel
theorem dX2_storiesOfTheme_12 : decode cX2_storiesOfTheme 12 = .ok (.iload_n 2, 1) := by decide +kernel
theorem dX2_storiesOfTheme_13 : decode cX2_storiesOfTheme 13 = .ok (.aload_n 0, 1) := by decide +kernel
theorem dX2_storiesOfTheme_14 : decode cX2_storiesOfTheme 14 = .ok (.iload_n 3, 1) := by decide +kernel
theorem dX2_storiesOfTheme_15 : decode cX2_storiesOfTheme 15 = .ok (.invokevirtual 117, 3) := by decide +kernel
theorem dX2_storiesOfTheme_18 : decode cX2_storiesOfTheme 18 = .ok (.iload_n 1, 1) := by decide +kernel
theorem dX2_storiesOfTheme_19 : decode cX2_storiesOfTheme 19 = .ok (.if_icmp .ne 7, 3) := by decide +kernel
theorem dX2_storiesOfTheme_22 : decode cX2_storiesOfTheme 22 = .ok (.iconst 1, 1) := by decide +kernel
theorem dX2_storiesOfTheme_23 : decode cX2_storiesOfTheme 23 = .ok (.goto 4, 3) := by decide +kernel
theorem dX2_storiesOfTheme_26 : decode cX2_storiesOfTheme 26 = .ok (.iconst 0, 1) := by decide +kernel
theorem dX2_storiesOfTheme_27 : decode cX2_storiesOfTheme 27 = .ok (.iadd, 1) := by decide +kernel
theorem dX2_storiesOfTheme_28 : decode cX2_storiesOfTheme 28 = .ok (.istore_n 2, 1) := by decide +kernel
theorem dX2_storiesOfTheme_29 : decode cX2_storiesOfTheme 29 = .ok (.iinc 3 1, 3) := by decide +kernel
theorem dX2_storiesOfTheme_32 : decode cX2_storiesOfTheme 32 = .ok (.goto (-28), 3) := by decide +kernel
theorem dX2_storiesOfTheme_35 : decode cX2_storiesOfTheme 35 = .ok (.iload_n 2, 1) := by decide +kernel
theorem dX2_storiesOfTheme_36 : decode cX2_storiesOfTheme 36 = .ok (.ireturn, 1) := by decide +kernel
theorem dX2_heatOfLetter_0 : decode cX2_heatOfLetter 0 = .ok (.iconst 0, 1) := by decide +kernel
theorem dX2_heatOfLetter_1 : decode cX2_heatOfLetter 1 = .ok (.istore_n 2, 1) := by decide +kernel
theorem dX2_heatOfLetter_2 : decode cX2_heatOfLetter 2 = .ok (.iconst 0, 1) := by decide +kernel
theorem dX2_heatOfLetter_3 : decode cX2_heatOfLetter 3 = .ok (.istore_n 3, 1) := by decide +kernel
theorem dX2_heatOfLetter_4 : decode cX2_heatOfLetter 4 = .ok (.iload_n 3, 1) := by decide +kernel
theorem dX2_heatOfLetter_5 : decode cX2_heatOfLetter 5 = .ok (.aload_n 0, 1) := by decide +kernel
theorem dX2_heatOfLetter_6 : decode cX2_heatOfLetter 6 = .ok (.invokevirtual 33, 3) := by decide +kernel
theorem dX2_heatOfLetter_9 : decode cX2_heatOfLetter 9 = .ok (.if_icmp .ge 32, 3) := by decide +kernel
theorem dX2_heatOfLetter_12 : decode cX2_heatOfLetter 12 = .ok (.iload_n 2, 1) := by decide +kernel
theorem dX2_heatOfLetter_13 : decode cX2_heatOfLetter 13 = .ok (.aload_n 0, 1) := by decide +kernel
theorem dX2_heatOfLetter_14 : decode cX2_heatOfLetter 14 = .ok (.getfield 15, 3) := by decide +kernel
theorem dX2_heatOfLetter_17 : decode cX2_heatOfLetter 17 = .ok (.iload_n 3, 1) := by decide +kernel
theorem dX2_heatOfLetter_18 : decode cX2_heatOfLetter 18 = .ok (.iaload, 1) := by decide +kernel
theorem dX2_heatOfLetter_19 : decode cX2_heatOfLetter 19 = .ok (.iload_n 1, 1) := by decide +kernel
theorem dX2_heatOfLetter_20 : decode cX2_heatOfLetter 20 = .ok (.if_icmp .ne 12, 3) := by decide +kernel
theorem dX2_heatOfLetter_23 : decode cX2_heatOfLetter 23 = .ok (.aload_n 0, 1) := by decide +kernel
theorem dX2_heatOfLetter_24 : decode cX2_heatOfLetter 24 = .ok (.getfield 18, 3) := by decide +kernel
theorem dX2_heatOfLetter_27 : decode cX2_heatOfLetter 27 = .ok (.iload_n 3, 1) := by decide +kernel
theorem dX2_heatOfLetter_28 : decode cX2_heatOfLetter 28 = .ok (.iaload, 1) := by decide +kernel
theorem dX2_heatOfLetter_29 : decode cX2_heatOfLetter 29 = .ok (.goto 4, 3) := by decide +kernel
theorem dX2_heatOfLetter_32 : decode cX2_heatOfLetter 32 = .ok (.iconst 0, 1) := by decide +kernel
theorem dX2_heatOfLetter_33 : decode cX2_heatOfLetter 33 = .ok (.iadd, 1) := by decide +kernel
theorem dX2_heatOfLetter_34 : decode cX2_heatOfLetter 34 = .ok (.istore_n 2, 1) := by decide +kernel
theorem dX2_heatOfLetter_35 : decode cX2_heatOfLetter 35 = .ok (.iinc 3 1, 3) := by decide +kernel
theorem dX2_heatOfLetter_38 : decode cX2_heatOfLetter 38 = .ok (.goto (-34), 3) := by decide +kernel
theorem dX2_heatOfLetter_41 : decode cX2_heatOfLetter 41 = .ok (.iload_n 2, 1) := by decide +kernel
theorem dX2_heatOfLetter_42 : decode cX2_heatOfLetter 42 = .ok (.ireturn, 1) := by decide +kernel
theorem dX2_isPair_0 : decode cX2_isPair 0 = .ok (.aload_n 0, 1) := by decide +kernel
theorem dX2_isPair_1 : decode cX2_isPair 1 = .ok (.getfield 15, 3) := by decide +kernel
theorem dX2_isPair_4 : decode cX2_isPair 4 = .ok (.iload_n 1, 1) := by decide +kernel
theorem dX2_isPair_5 : decode cX2_isPair 5 = .ok (.iaload, 1) := by decide +kernel
theorem dX2_isPair_6 : decode cX2_isPair 6 = .ok (.iload_n 2, 1) := by decide +kernel
theorem dX2_isPair_7 : decode cX2_isPair 7 = .ok (.if_icmp .ne 34, 3) := by decide +kernel
theorem dX2_isPair_10 : decode cX2_isPair 10 = .ok (.aload_n 0, 1) := by decide +kernel
theorem dX2_isPair_11 : decode cX2_isPair 11 = .ok (.getfield 15, 3) := by decide +kernel
theorem dX2_isPair_14 : decode cX2_isPair 14 = .ok (.iload_n 1, 1) := by decide +kernel
theorem dX2_isPair_15 : decode cX2_isPair 15 = .ok (.iconst 1, 1) := by decide +kernel
theorem dX2_isPair_16 : decode cX2_isPair 16 = .ok (.iadd, 1) := by decide +kernel
theorem dX2_isPair_17 : decode cX2_isPair 17 = .ok (.iaload, 1) := by decide +kernel
theorem dX2_isPair_18 : decode cX2_isPair 18 = .ok (.iload_n 3, 1) := by decide +kernel
theorem dX2_isPair_19 : decode cX2_isPair 19 = .ok (.if_icmp .ne 22, 3) := by decide +kernel
theorem dX2_isPair_22 : decode cX2_isPair 22 = .ok (.aload_n 0, 1) := by decide +kernel
theorem dX2_isPair_23 : decode cX2_isPair 23 = .ok (.iload_n 1, 1) := by decide +kernel
theorem dX2_isPair_24 : decode cX2_isPair 24 = .ok (.invokevirtual 71, 3) := by decide +kernel
theorem dX2_isPair_27 : decode cX2_isPair 27 = .ok (.aload_n 0, 1) := by decide +kernel
theorem dX2_isPair_28 : decode cX2_isPair 28 = .ok (.iload_n 1, 1) := by decide +kernel
theorem dX2_isPair_29 : decode cX2_isPair 29 = .ok (.iconst 1, 1) := by decide +kernel
theorem dX2_isPair_30 : decode cX2_isPair 30 = .ok (.iadd, 1) := by decide +kernel
theorem dX2_isPair_31 : decode cX2_isPair 31 = .ok (.invokevirtual 71, 3) := by decide +kernel
theorem dX2_isPair_34 : decode cX2_isPair 34 = .ok (.if_icmp .ne 7, 3) := by decide +kernel
theorem dX2_isPair_37 : decode cX2_isPair 37 = .ok (.iconst 1, 1) := by decide +kernel
theorem dX2_isPair_38 : decode cX2_isPair 38 = .ok (.goto 4, 3) := by decide +kernel
theorem dX2_isPair_41 : decode cX2_isPair 41 = .ok (.iconst 0, 1) := by decide +kernel
theorem dX2_isPair_42 : decode cX2_isPair 42 = .ok (.ireturn, 1) := by decide +kernel
theorem dX3_write_0 : decode cX3_write 0 = .ok (.aload_n 0, 1) := by decide +kernel
theorem dX3_write_1 : decode cX3_write 1 = .ok (.getfield 37, 3) := by decide +kernel
theorem dX3_write_4 : decode cX3_write 4 = .ok (.invokevirtual 68, 3) := by decide +kernel
theorem dX3_write_7 : decode cX3_write 7 = .ok (.bipush (-6), 2) := by decide +kernel
theorem dX3_write_9 : decode cX3_write 9 = .ok (.if_icmp .eq 6, 3) := by decide +kernel
theorem dX3_write_12 : decode cX3_write 12 = .ok (.bipush (-3), 2) := by decide +kernel
theorem dX3_write_14 : decode cX3_write 14 = .ok (.ireturn, 1) := by decide +kernel
theorem dX3_write_15 : decode cX3_write 15 = .ok (.aload_n 0, 1) := by decide +kernel
theorem dX3_write_16 : decode cX3_write 16 = .ok (.getfield 10, 3) := by decide +kernel
theorem dX3_write_19 : decode cX3_write 19 = .ok (.getfield 72, 3) := by decide +kernel
theorem dX3_write_22 : decode cX3_write 22 = .ok (.aload_n 0, 1) := by decide +kernel
theorem dX3_write_23 : decode cX3_write 23 = .ok (.getfield 37, 3) := by decide +kernel
theorem dX3_write_26 : decode cX3_write 26 = .ok (.invokevirtual 76, 3) := by decide +kernel
theorem dX3_write_29 : decode cX3_write 29 = .ok (.iadd, 1) := by decide +kernel
theorem dX3_write_30 : decode cX3_write 30 = .ok (.bipush 12, 2) := by decide +kernel
theorem dX3_write_32 : decode cX3_write 32 = .ok (.if_icmp .gt 24, 3) := by decide +kernel
theorem dX3_write_35 : decode cX3_write 35 = .ok (.aload_n 0, 1) := by decide +kernel
theorem dX3_write_36 : decode cX3_write 36 = .ok (.getfield 10, 3) := by decide +kernel
theorem dX3_write_39 : decode cX3_write 39 = .ok (.invokevirtual 79, 3) := by decide +kernel
theorem dX3_write_42 : decode cX3_write 42 = .ok (.aload_n 0, 1) := by decide +kernel
theorem dX3_write_43 : decode cX3_write 43 = .ok (.getfield 37, 3) := by decide +kernel
theorem dX3_write_46 : decode cX3_write 46 = .ok (.invokevirtual 82, 3) := by decide +kernel
theorem dX3_write_49 : decode cX3_write 49 = .ok (.iadd, 1) := by decide +kernel
theorem dX3_write_50 : decode cX3_write 50 = .ok (.sipush 150, 3) := by decide +kernel
theorem dX3_write_53 : decode cX3_write 53 = .ok (.if_icmp .le 6, 3) := by decide +kernel
theorem dX3_write_56 : decode cX3_write 56 = .ok (.bipush (-4), 2) := by decide +kernel
theorem dX3_write_58 : decode cX3_write 58 = .ok (.ireturn, 1) := by decide +kernel
theorem dX3_write_59 : decode cX3_write 59 = .ok (.aload_n 0, 1) := by decide +kernel
theorem dX3_write_60 : decode cX3_write 60 = .ok (.getfield 22, 3) := by decide +kernel
theorem dX3_write_63 : decode cX3_write 63 = .ok (.aload_n 0, 1) := by decide +kernel
theorem dX3_write_64 : decode cX3_write 64 = .ok (.getfield 10, 3) := by decide +kernel
theorem dX3_write_67 : decode cX3_write 67 = .ok (.invokevirtual 61, 3) := by decide +kernel
theorem dX3_write_70 : decode cX3_write 70 = .ok (.aload_n 0, 1) := by decide +kernel
theorem dX3_write_71 : decode cX3_write 71 = .ok (.getfield 37, 3) := by decide +kernel
theorem dX3_write_74 : decode cX3_write 74 = .ok (.aload_n 0, 1) := by decide +kernel
theorem dX3_write_75 : decode cX3_write 75 = .ok (.getfield 10, 3) := by decide +kernel
theorem dX3_write_78 : decode cX3_write 78 = .ok (.invokevirtual 85, 3) := by decide +kernel
theorem dX3_write_81 : decode cX3_write 81 = .ok (.aload_n 0, 1) := by decide +kernel
theorem dX3_write_82 : decode cX3_write 82 = .ok (.getfield 37, 3) := by decide +kernel
theorem dX3_write_85 : decode cX3_write 85 = .ok (.iconst 0, 1) := by decide +kernel
theorem dX3_write_86 : decode cX3_write 86 = .ok (.putfield 88, 3) := by decide +kernel
theorem dX3_write_89 : decode cX3_write 89 = .ok (.aload_n 0, 1) := by decide +kernel
theorem dX3_write_90 : decode cX3_write 90 = .ok (.getfield 10, 3) := by decide +kernel
theorem dX3_write_93 : decode cX3_write 93 = .ok (.invokevirtual 91, 3) := by decide +kernel
theorem dX3_write_96 : decode cX3_write 96 = .ok (.pop, 1) := by decide +kernel
theorem dX3_write_97 : decode cX3_write 97 = .ok (.aload_n 0, 1) := by decide +kernel
theorem dX3_write_98 : decode cX3_write 98 = .ok (.getfield 10, 3) := by decide +kernel
theorem dX3_write_101 : decode cX3_write 101 = .ok (.getfield 72, 3) := by decide +kernel
theorem dX3_write_104 : decode cX3_write 104 = .ok (.ireturn, 1) := by decide +kernel
theorem dX3_heat_0 : decode cX3_heat 0 = .ok (.aload_n 0, 1) := by decide +kernel
theorem dX3_heat_1 : decode cX3_heat 1 = .ok (.getfield 10, 3) := by decide +kernel
theorem dX3_heat_4 : decode cX3_heat 4 = .ok (.iload_n 1, 1) := by decide +kernel
theorem dX3_heat_5 : decode cX3_heat 5 = .ok (.iload_n 2, 1) := by decide +kernel
theorem dX3_heat_6 : decode cX3_heat 6 = .ok (.invokevirtual 94, 3) := by decide +kernel
theorem dX3_heat_9 : decode cX3_heat 9 = .ok (.ifCond .ne 5, 3) := by decide +kernel
theorem dX3_heat_12 : decode cX3_heat 12 = .ok (.iconst (-1), 1) := by decide +kernel
theorem dX3_heat_13 : decode cX3_heat 13 = .ok (.ireturn, 1) := by decide +kernel
theorem dX3_heat_14 : decode cX3_heat 14 = .ok (.iload_n 3, 1) := by decide +kernel
theorem dX3_heat_15 : decode cX3_heat 15 = .ok (.iconst 1, 1) := by decide +kernel
theorem dX3_heat_16 : decode cX3_heat 16 = .ok (.sipush 500, 3) := by decide +kernel
theorem dX3_heat_19 : decode cX3_heat 19 = .ok (.invokestatic 51, 3) := by decide +kernel
theorem dX3_heat_22 : decode cX3_heat 22 = .ok (.ifCond .ne 6, 3) := by decide +kernel
theorem dX3_heat_25 : decode cX3_heat 25 = .ok (.bipush (-2), 2) := by decide +kernel
theorem dX3_heat_27 : decode cX3_heat 27 = .ok (.ireturn, 1) := by decide +kernel
theorem dX3_heat_28 : decode cX3_heat 28 = .ok (.aload_n 0, 1) := by decide +kernel
theorem dX3_heat_29 : decode cX3_heat 29 = .ok (.getfield 22, 3) := by decide +kernel
theorem dX3_heat_32 : decode cX3_heat 32 = .ok (.aload_n 0, 1) := by decide +kernel
theorem dX3_heat_33 : decode cX3_heat 33 = .ok (.getfield 10, 3) := by decide +kernel
theorem dX3_heat_36 : decode cX3_heat 36 = .ok (.invokevirtual 61, 3) := by decide +kernel
theorem dX3_heat_39 : decode cX3_heat 39 = .ok (.aload_n 0, 1) := by decide +kernel
theorem dX3_heat_40 : decode cX3_heat 40 = .ok (.getfield 10, 3) := by decide +kernel
theorem dX3_heat_43 : decode cX3_heat 43 = .ok (.aload_n 0, 1) := by decide +kernel
theorem dX3_heat_44 : decode cX3_heat 44 = .ok (.getfield 10, 3) := by decide +kernel
theorem dX3_heat_47 : decode cX3_heat 47 = .ok (.getfield 98, 3) := by decide +kernel
theorem dX3_heat_50 : decode cX3_heat 50 = .ok (.iload_n 1, 1) := by decide +kernel
theorem dX3_heat_51 : decode cX3_heat 51 = .ok (.iaload, 1) := by decide +kernel
theorem dX3_heat_52 : decode cX3_heat 52 = .ok (.iload_n 2, 1) := by decide +kernel
theorem dX3_heat_53 : decode cX3_heat 53 = .ok (.iadd, 1) := by decide +kernel
theorem dX3_heat_54 : decode cX3_heat 54 = .ok (.iload_n 3, 1) := by decide +kernel
theorem dX3_heat_55 : decode cX3_heat 55 = .ok (.invokevirtual 101, 3) := by decide +kernel
theorem dX3_heat_58 : decode cX3_heat 58 = .ok (.aload_n 0, 1) := by decide +kernel
theorem dX3_heat_59 : decode cX3_heat 59 = .ok (.getfield 10, 3) := by decide +kernel
theorem dX3_heat_62 : decode cX3_heat 62 = .ok (.invokevirtual 91, 3) := by decide +kernel
theorem dX3_heat_65 : decode cX3_heat 65 = .ok (.ireturn, 1) := by decide +kernel
theorem ggX2_react_X2_words : GoodIn wsX2_react wsX2_words := goodIn_r _ [12, 13, 14, 43, 44, 45, 46, 47, 48, 49, 50, 51, 52, 53, 54] rfl (by decide +kernel)
theorem gX2_react_X2_words : GoodIn wsX2_react (wsV RX2 33 RX2 yX2_words wsX2_words) := goodIn_app (goodIn_r _ [8, 9, 10, 11] rfl (by decide +kernel)) ggX2_react_X2_words
theorem ggX2_react_X2_reactAt : GoodIn wsX2_react wsX2_reactAt := goodIn_r _ [18, 13, 19, 14, 20, 21, 2, 3, 22, 23, 24, 11, 25, 26, 27, 28, 29, 30, 31, 32, 33, 34, 35, 36, 37, 38, 39, 40, 41, 6, 42, 43, 44, 45, 46, 47, 48, 49, 50, 51, 52, 53, 54] rfl (by decide +kernel)
theorem gX2_react_X2_reactAt : GoodIn wsX2_react (wsV RX2 81 RX2 yX2_reactAt wsX2_reactAt) := goodIn_app (goodIn_r _ [15, 16, 17, 11] rfl (by decide +kernel)) ggX2_react_X2_reactAt
theorem ggX2_reactAt_X2_storyAt : GoodIn wsX2_reactAt wsX2_storyAt := goodIn_r _ [12, 3, 1, 31, 32, 33, 34, 35, 36, 37, 38, 39, 40, 41, 42] rfl (by decide +kernel)
theorem gX2_reactAt_X2_storyAt : GoodIn wsX2_reactAt (wsV RX2 71 RX2 yX2_storyAt wsX2_storyAt) := goodIn_app (goodIn_r _ [8, 9, 10, 11] rfl (by decide +kernel)) ggX2_reactAt_X2_storyAt
theorem ggX2_reactAt_X2_split : GoodIn wsX2_reactAt wsX2_split := goodIn_r _ [16, 3, 1, 17, 18, 19, 20, 21, 22, 31, 32, 33, 34, 35, 36, 37, 38, 39, 40, 41, 42] rfl (by decide +kernel)
theorem gX2_reactAt_X2_split : GoodIn wsX2_reactAt (wsV RX2 88 RX2 yX2_split wsX2_split) := goodIn_app (goodIn_r _ [13, 14, 15, 11] rfl (by decide +kernel)) ggX2_reactAt_X2_split
theorem ggX2_reactAt_X2_warm : GoodIn wsX2_reactAt wsX2_warm := goodIn_r _ [26, 6, 27, 28, 29, 30, 31, 32, 33, 34, 35, 36, 37, 38, 39, 40, 41, 42] rfl (by decide +kernel)
theorem gX2_reactAt_X2_warm : GoodIn wsX2_reactAt (wsV RX2 92 RX2 yX2_warm wsX2_warm) := goodIn_app (goodIn_r _ [23, 24, 25, 11] rfl (by decide +kernel)) ggX2_reactAt_X2_warm
theorem ggX2_heatOf_X2_heatBetween : GoodIn wsX2_heatOf wsX2_heatBetween := goodIn_r _ [6, 7, 8, 9, 10, 11, 12, 13, 14, 15, 16, 17, 18, 19] rfl (by decide +kernel)
theorem gX2_heatOf_X2_heatBetween : GoodIn wsX2_heatOf (wsV RX2 95 RX2 yX2_heatBetween wsX2_heatBetween) := goodIn_app (goodIn_r _ [2, 3, 4, 5] rfl (by decide +kernel)) ggX2_heatOf_X2_heatBetween
theorem ggX2_heatOfAll_X2_words : GoodIn wsX2_heatOfAll wsX2_words := goodIn_r _ [5, 6, 7, 13, 14, 15, 16, 17, 18, 19, 20, 21, 22, 23, 24] rfl (by decide +kernel)
theorem gX2_heatOfAll_X2_words : GoodIn wsX2_heatOfAll (wsV RX2 33 RX2 yX2_words wsX2_words) := goodIn_app (goodIn_r _ [1, 2, 3, 4] rfl (by decide +kernel)) ggX2_heatOfAll_X2_words
theorem ggX2_heatOfAll_X2_heatBetween : GoodIn wsX2_heatOfAll wsX2_heatBetween := goodIn_r _ [11, 12, 13, 14, 15, 16, 17, 18, 19, 20, 21, 22, 23, 24] rfl (by decide +kernel)
theorem gX2_heatOfAll_X2_heatBetween : GoodIn wsX2_heatOfAll (wsV RX2 95 RX2 yX2_heatBetween wsX2_heatBetween) := goodIn_app (goodIn_r _ [8, 9, 10, 4] rfl (by decide +kernel)) ggX2_heatOfAll_X2_heatBetween
theorem ggX2_timesIn_X2_timesBetween : GoodIn wsX2_timesIn wsX2_timesBetween := goodIn_r _ [6, 7, 8, 9, 10, 11, 12, 13, 14, 15, 16, 17, 18, 19] rfl (by decide +kernel)
theorem gX2_timesIn_X2_timesBetween : GoodIn wsX2_timesIn (wsV RX2 98 RX2 yX2_timesBetween wsX2_timesBetween) := goodIn_app (goodIn_r _ [2, 3, 4, 5] rfl (by decide +kernel)) ggX2_timesIn_X2_timesBetween
theorem ggX2_timesInAll_X2_words : GoodIn wsX2_timesInAll wsX2_words := goodIn_r _ [5, 6, 7, 13, 14, 15, 16, 17, 18, 19, 20, 21, 22, 23, 24] rfl (by decide +kernel)
theorem gX2_timesInAll_X2_words : GoodIn wsX2_timesInAll (wsV RX2 33 RX2 yX2_words wsX2_words) := goodIn_app (goodIn_r _ [1, 2, 3, 4] rfl (by decide +kernel)) ggX2_timesInAll_X2_words
theorem ggX2_timesInAll_X2_timesBetween : GoodIn wsX2_timesInAll wsX2_timesBetween := goodIn_r _ [11, 12, 13, 14, 15, 16, 17, 18, 19, 20, 21, 22, 23, 24] rfl (by decide +kernel)
theorem gX2_timesInAll_X2_timesBetween : GoodIn wsX2_timesInAll (wsV RX2 98 RX2 yX2_timesBetween wsX2_timesBetween) := goodIn_app (goodIn_r _ [8, 9, 10, 4] rfl (by decide +kernel)) ggX2_timesInAll_X2_timesBetween
theorem ggX2_tallyOf_J7_fill_53178 : GoodIn wsX2_tallyOf wsJ7_fill_53178 := goodIn_r _ [7] rfl (by decide +kernel)
theorem gX2_tallyOf_J7_fill_53178 : GoodIn wsX2_tallyOf (va_wsS RX2 102 yJ7_fill_53178 wsJ7_fill_53178) := goodIn_app (goodIn_r _ [4, 5, 6] rfl (by decide +kernel)) ggX2_tallyOf_J7_fill_53178
theorem ggX2_themeOf_X2_tallyOf : GoodIn wsX2_themeOf wsX2_tallyOf := goodIn_r _ [6, 1, 7, 8, 9, 10, 11, 12, 13, 14, 15, 16, 17, 18, 19, 20, 21, 22, 23, 24] rfl (by decide +kernel)
theorem gX2_themeOf_X2_tallyOf : GoodIn wsX2_themeOf (wsV RX2 108 RX2 yX2_tallyOf wsX2_tallyOf) := goodIn_app (goodIn_r _ [2, 3, 4, 5] rfl (by decide +kernel)) ggX2_themeOf_X2_tallyOf
theorem ggX2_unlikeLettersOf_X2_tallyOf : GoodIn wsX2_unlikeLettersOf wsX2_tallyOf := goodIn_r _ [6, 1, 7, 8, 9, 10, 11, 12, 13, 14, 15, 16, 17, 18, 19, 20, 21, 22, 23, 24] rfl (by decide +kernel)
theorem gX2_unlikeLettersOf_X2_tallyOf : GoodIn wsX2_unlikeLettersOf (wsV RX2 108 RX2 yX2_tallyOf wsX2_tallyOf) := goodIn_app (goodIn_r _ [2, 3, 4, 5] rfl (by decide +kernel)) ggX2_unlikeLettersOf_X2_tallyOf
theorem ggX2_readsFromBothEnds_X2_sizeOf : GoodIn wsX2_readsFromBothEnds wsX2_sizeOf := goodIn_r _ [7, 1, 8, 9, 10, 11, 12, 13, 14, 15, 16, 17, 18, 19] rfl (by decide +kernel)
theorem gX2_readsFromBothEnds_X2_sizeOf : GoodIn wsX2_readsFromBothEnds (wsV RX2 67 RX2 yX2_sizeOf wsX2_sizeOf) := goodIn_app (goodIn_r _ [3, 4, 5, 6] rfl (by decide +kernel)) ggX2_readsFromBothEnds_X2_sizeOf
theorem ggX2_unlikeFamilies_X2_isFirstOfFamily : GoodIn wsX2_unlikeFamilies wsX2_isFirstOfFamily := goodIn_r _ [6, 7, 8, 9, 10, 11, 12, 13, 14, 15, 16, 17, 18, 19] rfl (by decide +kernel)
theorem gX2_unlikeFamilies_X2_isFirstOfFamily : GoodIn wsX2_unlikeFamilies (wsV RX2 111 RX2 yX2_isFirstOfFamily wsX2_isFirstOfFamily) := goodIn_app (goodIn_r _ [2, 3, 4, 5] rfl (by decide +kernel)) ggX2_unlikeFamilies_X2_isFirstOfFamily
theorem ggX2_storiesWith_X2_timesIn : GoodIn wsX2_storiesWith wsX2_timesIn := goodIn_r _ [6, 7, 8, 9, 10, 5, 11, 12, 13, 14, 15, 16, 17, 18, 19, 20, 21, 22, 23, 24] rfl (by decide +kernel)
theorem gX2_storiesWith_X2_timesIn : GoodIn wsX2_storiesWith (wsV RX2 114 RX2 yX2_timesIn wsX2_timesIn) := goodIn_app (goodIn_r _ [2, 3, 4, 5] rfl (by decide +kernel)) ggX2_storiesWith_X2_timesIn
theorem ggX2_storiesOfTheme_X2_themeOf : GoodIn wsX2_storiesOfTheme wsX2_themeOf := goodIn_r _ [6, 7, 8, 9, 10, 5, 11, 12, 13, 14, 15, 16, 17, 18, 19, 20, 21, 22, 23, 24, 25, 26, 27, 28, 29] rfl (by decide +kernel)
theorem gX2_storiesOfTheme_X2_themeOf : GoodIn wsX2_storiesOfTheme (wsV RX2 117 RX2 yX2_themeOf wsX2_themeOf) := goodIn_app (goodIn_r _ [2, 3, 4, 5] rfl (by decide +kernel)) ggX2_storiesOfTheme_X2_themeOf
theorem ggX2_heatOfLetter_X2_words : GoodIn wsX2_heatOfLetter wsX2_words := goodIn_r _ [7, 8, 9, 10, 11, 12, 13, 14, 15, 16, 17, 18, 19, 20, 21] rfl (by decide +kernel)
theorem gX2_heatOfLetter_X2_words : GoodIn wsX2_heatOfLetter (wsV RX2 33 RX2 yX2_words wsX2_words) := goodIn_app (goodIn_r _ [3, 4, 5, 6] rfl (by decide +kernel)) ggX2_heatOfLetter_X2_words
theorem ggX2_isPair_X2_storyAt : GoodIn wsX2_isPair wsX2_storyAt := goodIn_r _ [6, 7, 8, 9, 10, 11, 12, 13, 14, 15, 16, 17, 18, 19, 20] rfl (by decide +kernel)
theorem gX2_isPair_X2_storyAt : GoodIn wsX2_isPair (wsV RX2 71 RX2 yX2_storyAt wsX2_storyAt) := goodIn_app (goodIn_r _ [2, 3, 4, 5] rfl (by decide +kernel)) ggX2_isPair_X2_storyAt
theorem ggX3_write_X1_firstFault : GoodIn wsX3_write wsX1_firstFault := goodIn_r _ [10, 11, 12, 13, 14, 9, 15, 16, 17, 18, 19, 20, 21, 128, 129] rfl (by decide +kernel)
theorem gX3_write_X1_firstFault : GoodIn wsX3_write (wsV RX3 68 RX1 yX1_firstFault wsX1_firstFault) := goodIn_app (goodIn_r _ [6, 7, 8, 9] rfl (by decide +kernel)) ggX3_write_X1_firstFault
theorem ggX3_write_X1_storiesIn : GoodIn wsX3_write wsX1_storiesIn := goodIn_r _ [25, 11, 12, 128, 129] rfl (by decide +kernel)
theorem gX3_write_X1_storiesIn : GoodIn wsX3_write (wsV RX3 76 RX1 yX1_storiesIn wsX1_storiesIn) := goodIn_app (goodIn_r _ [22, 23, 24, 9] rfl (by decide +kernel)) ggX3_write_X1_storiesIn
theorem ggX3_write_X2_words : GoodIn wsX3_write wsX2_words := goodIn_r _ [30, 31, 32, 116, 117, 118, 119, 120, 121, 122, 123, 124, 125, 126, 127] rfl (by decide +kernel)
theorem gX3_write_X2_words : GoodIn wsX3_write (wsV RX3 79 RX2 yX2_words wsX2_words) := goodIn_app (goodIn_r _ [26, 27, 28, 29] rfl (by decide +kernel)) ggX3_write_X2_words
theorem ggX3_write_X1_wordsIn : GoodIn wsX3_write wsX1_wordsIn := goodIn_r _ [36, 11, 12, 16, 17, 9, 18, 19, 20, 21, 128, 129] rfl (by decide +kernel)
theorem gX3_write_X1_wordsIn : GoodIn wsX3_write (wsV RX3 82 RX1 yX1_wordsIn wsX1_wordsIn) := goodIn_app (goodIn_r _ [33, 34, 35, 9] rfl (by decide +kernel)) ggX3_write_X1_wordsIn
theorem ggX3_write_X0_record : GoodIn wsX3_write wsX0_record := goodIn_r _ [41, 42, 43, 44, 45, 46, 47, 29, 48, 49, 50, 51, 52, 53, 54, 55, 31, 32, 56, 57, 58, 59, 60, 61, 62, 27, 28, 30, 130, 131, 132, 116, 117, 118, 119, 120, 121, 122, 123, 124, 125, 126, 127] rfl (by decide +kernel)
theorem gX3_write_X0_record : GoodIn wsX3_write (wsV RX3 61 RX0 yX0_record wsX0_record) := goodIn_app (goodIn_r _ [37, 38, 39, 40] rfl (by decide +kernel)) ggX3_write_X0_record
theorem ggX3_write_X1_writeTo : GoodIn wsX3_write wsX1_writeTo := goodIn_r _ [66, 11, 12, 67, 68, 69, 29, 70, 56, 32, 58, 57, 31, 16, 17, 9, 18, 19, 20, 21, 71, 72, 73, 74, 54, 55, 62, 27, 28, 30, 75, 76, 77, 78, 128, 129, 116, 117, 118, 119, 120, 121, 122, 123, 124, 125, 126, 127] rfl (by decide +kernel)
theorem gX3_write_X1_writeTo : GoodIn wsX3_write (wsV RX3 85 RX1 yX1_writeTo wsX1_writeTo) := goodIn_app (goodIn_r _ [63, 64, 65, 9] rfl (by decide +kernel)) ggX3_write_X1_writeTo
theorem ggX3_write_X2_react : GoodIn wsX3_write wsX2_react := goodIn_r _ [82, 83, 55, 49, 84, 85, 86, 87, 62, 27, 28, 29, 30, 31, 32, 88, 89, 90, 91, 60, 59, 61, 92, 93, 94, 95, 96, 97, 98, 99, 50, 51, 52, 53, 56, 57, 100, 101, 102, 103, 104, 105, 106, 116, 117, 118, 119, 120, 121, 122, 123, 124, 125, 126, 127] rfl (by decide +kernel)
theorem gX3_write_X2_react : GoodIn wsX3_write (wsV RX3 91 RX2 yX2_react wsX2_react) := goodIn_app (goodIn_r _ [79, 80, 81, 29] rfl (by decide +kernel)) ggX3_write_X2_react
theorem ggX3_heat_X2_hasWord : GoodIn wsX3_heat wsX2_hasWord := goodIn_r _ [8, 9, 10, 11, 7, 12, 13, 14, 15, 16, 17, 18, 19, 20, 21, 90, 91, 92, 93, 94, 95, 96, 97, 98, 99, 100, 101] rfl (by decide +kernel)
theorem gX3_heat_X2_hasWord : GoodIn wsX3_heat (wsV RX3 94 RX2 yX2_hasWord wsX2_hasWord) := goodIn_app (goodIn_r _ [4, 5, 6, 7] rfl (by decide +kernel)) ggX3_heat_X2_hasWord
theorem ggX3_heat_X3_isWithin : GoodIn wsX3_heat wsX3_isWithin := goodIn_r _ [16] rfl (by decide +kernel)
theorem gX3_heat_X3_isWithin : GoodIn wsX3_heat (va_wsS RX3 51 yX3_isWithin wsX3_isWithin) := goodIn_app (goodIn_r _ [22, 14, 15] rfl (by decide +kernel)) ggX3_heat_X3_isWithin
theorem ggX3_heat_X0_record : GoodIn wsX3_heat wsX0_record := goodIn_r _ [27, 28, 29, 30, 31, 32, 33, 7, 34, 35, 36, 37, 38, 39, 40, 41, 21, 13, 42, 43, 44, 45, 46, 47, 48, 49, 50, 51, 102, 103, 104, 90, 91, 92, 93, 94, 95, 96, 97, 98, 99, 100, 101] rfl (by decide +kernel)
theorem gX3_heat_X0_record : GoodIn wsX3_heat (wsV RX3 61 RX0 yX0_record wsX0_record) := goodIn_app (goodIn_r _ [23, 24, 25, 26] rfl (by decide +kernel)) ggX3_heat_X0_record
theorem ggX3_heat_X2_warm : GoodIn wsX3_heat wsX2_warm := goodIn_r _ [55, 41, 56, 57, 58, 59, 90, 91, 92, 93, 94, 95, 96, 97, 98, 99, 100, 101] rfl (by decide +kernel)
theorem gX3_heat_X2_warm : GoodIn wsX3_heat (wsV RX3 101 RX2 yX2_warm wsX2_warm) := goodIn_app (goodIn_r _ [52, 53, 54, 7] rfl (by decide +kernel)) ggX3_heat_X2_warm
theorem ggX3_heat_X2_react : GoodIn wsX3_heat wsX2_react := goodIn_r _ [63, 64, 41, 35, 65, 66, 58, 67, 48, 49, 50, 7, 51, 21, 13, 68, 69, 70, 71, 46, 45, 47, 72, 73, 74, 75, 76, 77, 78, 79, 36, 37, 38, 39, 42, 43, 80, 53, 54, 55, 56, 57, 59, 90, 91, 92, 93, 94, 95, 96, 97, 98, 99, 100, 101] rfl (by decide +kernel)
theorem gX3_heat_X2_react : GoodIn wsX3_heat (wsV RX3 91 RX2 yX2_react wsX2_react) := goodIn_app (goodIn_r _ [60, 61, 62, 7] rfl (by decide +kernel)) ggX3_heat_X2_react
