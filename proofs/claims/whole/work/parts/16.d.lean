theorem dX3_critical_0 : decode cX3_critical 0 = .ok (.aload_n 0, 1) := by decide +kernel
theorem dX3_critical_1 : decode cX3_critical 1 = .ok (.getfield 10, 3) := by decide +kernel
theorem dX3_critical_4 : decode cX3_critical 4 = .ok (.iload_n 1, 1) := by decide +kernel
theorem dX3_critical_5 : decode cX3_critical 5 = .ok (.iload_n 2, 1) := by decide +kernel
theorem dX3_critical_6 : decode cX3_critical 6 = .ok (.invokevirtual 94, 3) := by decide +kernel
theorem dX3_critical_9 : decode cX3_critical 9 = .ok (.ifCond .ne 5, 3) := by decide +kernel
theorem dX3_critical_12 : decode cX3_critical 12 = .ok (.iconst (-1), 1) := by decide +kernel
theorem dX3_critical_13 : decode cX3_critical 13 = .ok (.ireturn, 1) := by decide +kernel
theorem dX3_critical_14 : decode cX3_critical 14 = .ok (.aload_n 0, 1) := by decide +kernel
theorem dX3_critical_15 : decode cX3_critical 15 = .ok (.getfield 10, 3) := by decide +kernel
theorem dX3_critical_18 : decode cX3_critical 18 = .ok (.getfield 98, 3) := by decide +kernel
theorem dX3_critical_21 : decode cX3_critical 21 = .ok (.iload_n 1, 1) := by decide +kernel
theorem dX3_critical_22 : decode cX3_critical 22 = .ok (.iaload, 1) := by decide +kernel
theorem dX3_critical_23 : decode cX3_critical 23 = .ok (.iload_n 2, 1) := by decide +kernel
theorem dX3_critical_24 : decode cX3_critical 24 = .ok (.iadd, 1) := by decide +kernel
theorem dX3_critical_25 : decode cX3_critical 25 = .ok (.istore_n 3, 1) := by decide +kernel
theorem dX3_critical_26 : decode cX3_critical 26 = .ok (.iconst 1, 1) := by decide +kernel
theorem dX3_critical_27 : decode cX3_critical 27 = .ok (.aload_n 0, 1) := by decide +kernel
theorem dX3_critical_28 : decode cX3_critical 28 = .ok (.getfield 10, 3) := by decide +kernel
theorem dX3_critical_31 : decode cX3_critical 31 = .ok (.getfield 65, 3) := by decide +kernel
theorem dX3_critical_34 : decode cX3_critical 34 = .ok (.iconst 0, 1) := by decide +kernel
theorem dX3_critical_35 : decode cX3_critical 35 = .ok (.iaload, 1) := by decide +kernel
theorem dX3_critical_36 : decode cX3_critical 36 = .ok (.aload_n 0, 1) := by decide +kernel
theorem dX3_critical_37 : decode cX3_critical 37 = .ok (.getfield 10, 3) := by decide +kernel
theorem dX3_critical_40 : decode cX3_critical 40 = .ok (.getfield 133, 3) := by decide +kernel
theorem dX3_critical_43 : decode cX3_critical 43 = .ok (.iload_n 3, 1) := by decide +kernel
theorem dX3_critical_44 : decode cX3_critical 44 = .ok (.iaload, 1) := by decide +kernel
theorem dX3_critical_45 : decode cX3_critical 45 = .ok (.isub, 1) := by decide +kernel
theorem dX3_critical_46 : decode cX3_critical 46 = .ok (.invokestatic 127, 3) := by decide +kernel
theorem dX3_critical_49 : decode cX3_critical 49 = .ok (.istore 4, 2) := by decide +kernel
theorem dX3_critical_51 : decode cX3_critical 51 = .ok (.aload_n 0, 1) := by decide +kernel
theorem dX3_critical_52 : decode cX3_critical 52 = .ok (.getfield 10, 3) := by decide +kernel
theorem dX3_critical_55 : decode cX3_critical 55 = .ok (.invokevirtual 214, 3) := by decide +kernel
theorem dX3_critical_58 : decode cX3_critical 58 = .ok (.ifCond .eq 8, 3) := by decide +kernel
theorem dX3_critical_61 : decode cX3_critical 61 = .ok (.iload 4, 2) := by decide +kernel
theorem dX3_critical_63 : decode cX3_critical 63 = .ok (.goto 4, 3) := by decide +kernel
theorem dX3_critical_66 : decode cX3_critical 66 = .ok (.iconst 1, 1) := by decide +kernel
theorem dX3_critical_67 : decode cX3_critical 67 = .ok (.istore 5, 2) := by decide +kernel
theorem dX3_critical_69 : decode cX3_critical 69 = .ok (.iload 5, 2) := by decide +kernel
theorem dX3_critical_71 : decode cX3_critical 71 = .ok (.istore 6, 2) := by decide +kernel
theorem dX3_critical_73 : decode cX3_critical 73 = .ok (.iload 6, 2) := by decide +kernel
theorem dX3_critical_75 : decode cX3_critical 75 = .ok (.iload 4, 2) := by decide +kernel
theorem dX3_critical_77 : decode cX3_critical 77 = .ok (.if_icmp .gt 37, 3) := by decide +kernel
theorem dX3_critical_80 : decode cX3_critical 80 = .ok (.aload_n 0, 1) := by decide +kernel
theorem dX3_critical_81 : decode cX3_critical 81 = .ok (.iload_n 3, 1) := by decide +kernel
theorem dX3_critical_82 : decode cX3_critical 82 = .ok (.iload 6, 2) := by decide +kernel
theorem dX3_critical_84 : decode cX3_critical 84 = .ok (.invokevirtual 211, 3) := by decide +kernel
theorem dX3_critical_87 : decode cX3_critical 87 = .ok (.pop, 1) := by decide +kernel
theorem dX3_critical_88 : decode cX3_critical 88 = .ok (.aload_n 0, 1) := by decide +kernel
theorem dX3_critical_89 : decode cX3_critical 89 = .ok (.getfield 16, 3) := by decide +kernel
theorem dX3_critical_92 : decode cX3_critical 92 = .ok (.getfield 166, 3) := by decide +kernel
theorem dX3_critical_95 : decode cX3_critical 95 = .ok (.aload_n 0, 1) := by decide +kernel
theorem dX3_critical_96 : decode cX3_critical 96 = .ok (.getfield 10, 3) := by decide +kernel
theorem dX3_critical_99 : decode cX3_critical 99 = .ok (.getfield 166, 3) := by decide +kernel
theorem dX3_critical_102 : decode cX3_critical 102 = .ok (.if_icmp .le 6, 3) := by decide +kernel
theorem dX3_critical_105 : decode cX3_critical 105 = .ok (.iload 6, 2) := by decide +kernel
theorem dX3_critical_107 : decode cX3_critical 107 = .ok (.ireturn, 1) := by decide +kernel
theorem dX3_critical_108 : decode cX3_critical 108 = .ok (.iinc 6 1, 3) := by decide +kernel
theorem dX3_critical_111 : decode cX3_critical 111 = .ok (.goto (-38), 3) := by decide +kernel
theorem dX3_critical_114 : decode cX3_critical 114 = .ok (.bipush (-6), 2) := by decide +kernel
theorem dX3_critical_116 : decode cX3_critical 116 = .ok (.ireturn, 1) := by decide +kernel
theorem dX3_touchiest_0 : decode cX3_touchiest 0 = .ok (.iload_n 1, 1) := by decide +kernel
theorem dX3_touchiest_1 : decode cX3_touchiest 1 = .ok (.iconst 1, 1) := by decide +kernel
theorem dX3_touchiest_2 : decode cX3_touchiest 2 = .ok (.sipush 500, 3) := by decide +kernel
theorem dX3_touchiest_5 : decode cX3_touchiest 5 = .ok (.invokestatic 51, 3) := by decide +kernel
theorem dX3_touchiest_8 : decode cX3_touchiest 8 = .ok (.ifCond .eq 12, 3) := by decide +kernel
theorem dX3_touchiest_11 : decode cX3_touchiest 11 = .ok (.iload_n 2, 1) := by decide +kernel
theorem dX3_touchiest_12 : decode cX3_touchiest 12 = .ok (.iconst 0, 1) := by decide +kernel
theorem dX3_touchiest_13 : decode cX3_touchiest 13 = .ok (.iconst 2, 1) := by decide +kernel
theorem dX3_touchiest_14 : decode cX3_touchiest 14 = .ok (.invokestatic 51, 3) := by decide +kernel
theorem dX3_touchiest_17 : decode cX3_touchiest 17 = .ok (.ifCond .ne 6, 3) := by decide +kernel
theorem dX3_touchiest_20 : decode cX3_touchiest 20 = .ok (.bipush (-2), 2) := by decide +kernel
theorem dX3_touchiest_22 : decode cX3_touchiest 22 = .ok (.ireturn, 1) := by decide +kernel
theorem dX3_touchiest_23 : decode cX3_touchiest 23 = .ok (.aload_n 0, 1) := by decide +kernel
theorem dX3_touchiest_24 : decode cX3_touchiest 24 = .ok (.getfield 10, 3) := by decide +kernel
theorem dX3_touchiest_27 : decode cX3_touchiest 27 = .ok (.getfield 72, 3) := by decide +kernel
theorem dX3_touchiest_30 : decode cX3_touchiest 30 = .ok (.ifCond .ne 6, 3) := by decide +kernel
theorem dX3_touchiest_33 : decode cX3_touchiest 33 = .ok (.bipush (-6), 2) := by decide +kernel
theorem dX3_touchiest_35 : decode cX3_touchiest 35 = .ok (.ireturn, 1) := by decide +kernel
theorem dX3_touchiest_36 : decode cX3_touchiest 36 = .ok (.aload_n 0, 1) := by decide +kernel
theorem dX3_touchiest_37 : decode cX3_touchiest 37 = .ok (.getfield 10, 3) := by decide +kernel
theorem dX3_touchiest_40 : decode cX3_touchiest 40 = .ok (.invokevirtual 214, 3) := by decide +kernel
theorem dX3_touchiest_43 : decode cX3_touchiest 43 = .ok (.istore_n 3, 1) := by decide +kernel
theorem dX3_touchiest_44 : decode cX3_touchiest 44 = .ok (.iconst 0, 1) := by decide +kernel
theorem dX3_touchiest_45 : decode cX3_touchiest 45 = .ok (.istore 4, 2) := by decide +kernel
theorem dX3_touchiest_47 : decode cX3_touchiest 47 = .ok (.iconst (-1), 1) := by decide +kernel
theorem dX3_touchiest_48 : decode cX3_touchiest 48 = .ok (.istore 5, 2) := by decide +kernel
theorem dX3_touchiest_50 : decode cX3_touchiest 50 = .ok (.iconst 0, 1) := by decide +kernel
theorem dX3_touchiest_51 : decode cX3_touchiest 51 = .ok (.istore 6, 2) := by decide +kernel
theorem dX3_touchiest_53 : decode cX3_touchiest 53 = .ok (.iload 6, 2) := by decide +kernel
theorem dX3_touchiest_55 : decode cX3_touchiest 55 = .ok (.aload_n 0, 1) := by decide +kernel
theorem dX3_touchiest_56 : decode cX3_touchiest 56 = .ok (.getfield 10, 3) := by decide +kernel
theorem dX3_touchiest_59 : decode cX3_touchiest 59 = .ok (.invokevirtual 79, 3) := by decide +kernel
theorem dX3_touchiest_62 : decode cX3_touchiest 62 = .ok (.if_icmp .ge 77, 3) := by decide +kernel
theorem dX3_touchiest_65 : decode cX3_touchiest 65 = .ok (.iload_n 3, 1) := by decide +kernel
theorem dX3_touchiest_66 : decode cX3_touchiest 66 = .ok (.ifCond .eq 31, 3) := by decide +kernel
theorem dX3_touchiest_69 : decode cX3_touchiest 69 = .ok (.aload_n 0, 1) := by decide +kernel
theorem dX3_touchiest_70 : decode cX3_touchiest 70 = .ok (.getfield 10, 3) := by decide +kernel
theorem dX3_touchiest_73 : decode cX3_touchiest 73 = .ok (.getfield 133, 3) := by decide +kernel
theorem dX3_touchiest_76 : decode cX3_touchiest 76 = .ok (.iload 6, 2) := by decide +kernel
theorem dX3_touchiest_78 : decode cX3_touchiest 78 = .ok (.iaload, 1) := by decide +kernel
theorem dX3_touchiest_79 : decode cX3_touchiest 79 = .ok (.iload_n 1, 1) := by decide +kernel
theorem dX3_touchiest_80 : decode cX3_touchiest 80 = .ok (.iadd, 1) := by decide +kernel
theorem dX3_touchiest_81 : decode cX3_touchiest 81 = .ok (.aload_n 0, 1) := by decide +kernel
theorem dX3_touchiest_82 : decode cX3_touchiest 82 = .ok (.getfield 10, 3) := by decide +kernel
theorem dX3_touchiest_85 : decode cX3_touchiest 85 = .ok (.getfield 65, 3) := by decide +kernel
theorem dX3_touchiest_88 : decode cX3_touchiest 88 = .ok (.iconst 0, 1) := by decide +kernel
theorem dX3_touchiest_89 : decode cX3_touchiest 89 = .ok (.iaload, 1) := by decide +kernel
theorem dX3_touchiest_90 : decode cX3_touchiest 90 = .ok (.if_icmp .ge 7, 3) := by decide +kernel
theorem dX3_touchiest_93 : decode cX3_touchiest 93 = .ok (.iconst 1, 1) := by decide +kernel
theorem dX3_touchiest_94 : decode cX3_touchiest 94 = .ok (.goto 4, 3) := by decide +kernel
theorem dX3_touchiest_97 : decode cX3_touchiest 97 = .ok (.iconst 0, 1) := by decide +kernel
theorem dX3_touchiest_98 : decode cX3_touchiest 98 = .ok (.istore 7, 2) := by decide +kernel
theorem dX3_touchiest_100 : decode cX3_touchiest 100 = .ok (.iload 7, 2) := by decide +kernel
theorem dX3_touchiest_102 : decode cX3_touchiest 102 = .ok (.ifCond .eq 7, 3) := by decide +kernel
theorem dX3_touchiest_105 : decode cX3_touchiest 105 = .ok (.iconst 0, 1) := by decide +kernel
theorem dX3_touchiest_106 : decode cX3_touchiest 106 = .ok (.goto 10, 3) := by decide +kernel
theorem dX3_touchiest_109 : decode cX3_touchiest 109 = .ok (.aload_n 0, 1) := by decide +kernel
theorem dX3_touchiest_110 : decode cX3_touchiest 110 = .ok (.iload 6, 2) := by decide +kernel
theorem dX3_touchiest_112 : decode cX3_touchiest 112 = .ok (.iload_n 1, 1) := by decide +kernel
theorem dX3_touchiest_113 : decode cX3_touchiest 113 = .ok (.invokevirtual 211, 3) := by decide +kernel
theorem dX3_touchiest_116 : decode cX3_touchiest 116 = .ok (.istore 8, 2) := by decide +kernel
theorem dX3_touchiest_118 : decode cX3_touchiest 118 = .ok (.iload 8, 2) := by decide +kernel
theorem dX3_touchiest_120 : decode cX3_touchiest 120 = .ok (.iload 5, 2) := by decide +kernel
theorem dX3_touchiest_122 : decode cX3_touchiest 122 = .ok (.if_icmp .le 11, 3) := by decide +kernel
theorem dX3_touchiest_125 : decode cX3_touchiest 125 = .ok (.iload 8, 2) := by decide +kernel
theorem dX3_touchiest_127 : decode cX3_touchiest 127 = .ok (.istore 5, 2) := by decide +kernel
theorem dX3_touchiest_129 : decode cX3_touchiest 129 = .ok (.iload 6, 2) := by decide +kernel
theorem dX3_touchiest_131 : decode cX3_touchiest 131 = .ok (.istore 4, 2) := by decide +kernel
theorem dX3_touchiest_133 : decode cX3_touchiest 133 = .ok (.iinc 6 1, 3) := by decide +kernel
theorem dX3_touchiest_136 : decode cX3_touchiest 136 = .ok (.goto (-83), 3) := by decide +kernel
theorem dX3_touchiest_139 : decode cX3_touchiest 139 = .ok (.iload_n 2, 1) := by decide +kernel
theorem dX3_touchiest_140 : decode cX3_touchiest 140 = .ok (.lookupswitch 48 #[(0, 28), (1, 38)], 28) := by decide +kernel
theorem dX3_touchiest_168 : decode cX3_touchiest 168 = .ok (.aload_n 0, 1) := by decide +kernel
theorem dX3_touchiest_169 : decode cX3_touchiest 169 = .ok (.getfield 10, 3) := by decide +kernel
theorem dX3_touchiest_172 : decode cX3_touchiest 172 = .ok (.iload 4, 2) := by decide +kernel
theorem dX3_touchiest_174 : decode cX3_touchiest 174 = .ok (.invokevirtual 199, 3) := by decide +kernel
theorem dX3_touchiest_177 : decode cX3_touchiest 177 = .ok (.ireturn, 1) := by decide +kernel
theorem dX3_touchiest_178 : decode cX3_touchiest 178 = .ok (.aload_n 0, 1) := by decide +kernel
theorem dX3_touchiest_179 : decode cX3_touchiest 179 = .ok (.getfield 10, 3) := by decide +kernel
theorem dX3_touchiest_182 : decode cX3_touchiest 182 = .ok (.iload 4, 2) := by decide +kernel
theorem dX3_touchiest_184 : decode cX3_touchiest 184 = .ok (.invokevirtual 202, 3) := by decide +kernel
theorem dX3_touchiest_187 : decode cX3_touchiest 187 = .ok (.ireturn, 1) := by decide +kernel
theorem dX3_touchiest_188 : decode cX3_touchiest 188 = .ok (.iload 5, 2) := by decide +kernel
theorem dX3_touchiest_190 : decode cX3_touchiest 190 = .ok (.ireturn, 1) := by decide +kernel
theorem dX3_coolestPair_0 : decode cX3_coolestPair 0 = .ok (.iload_n 1, 1) := by decide +kernel
theorem dX3_coolestPair_1 : decode cX3_coolestPair 1 = .ok (.iconst 0, 1) := by decide +kernel
theorem dX3_coolestPair_2 : decode cX3_coolestPair 2 = .ok (.iconst 1, 1) := by decide +kernel
theorem dX3_coolestPair_3 : decode cX3_coolestPair 3 = .ok (.invokestatic 51, 3) := by decide +kernel
theorem dX3_coolestPair_6 : decode cX3_coolestPair 6 = .ok (.ifCond .ne 6, 3) := by decide +kernel
theorem dX3_coolestPair_9 : decode cX3_coolestPair 9 = .ok (.bipush (-2), 2) := by decide +kernel
theorem dX3_coolestPair_11 : decode cX3_coolestPair 11 = .ok (.ireturn, 1) := by decide +kernel
theorem dX3_coolestPair_12 : decode cX3_coolestPair 12 = .ok (.iconst 0, 1) := by decide +kernel
theorem dX3_coolestPair_13 : decode cX3_coolestPair 13 = .ok (.istore_n 2, 1) := by decide +kernel
theorem dX3_coolestPair_14 : decode cX3_coolestPair 14 = .ok (.iload_n 2, 1) := by decide +kernel
theorem dX3_coolestPair_15 : decode cX3_coolestPair 15 = .ok (.aload_n 0, 1) := by decide +kernel
theorem dX3_coolestPair_16 : decode cX3_coolestPair 16 = .ok (.getfield 10, 3) := by decide +kernel
theorem dX3_coolestPair_19 : decode cX3_coolestPair 19 = .ok (.getfield 72, 3) := by decide +kernel
theorem dX3_coolestPair_22 : decode cX3_coolestPair 22 = .ok (.if_icmp .ge 37, 3) := by decide +kernel
theorem dX3_coolestPair_25 : decode cX3_coolestPair 25 = .ok (.aload_n 0, 1) := by decide +kernel
theorem dX3_coolestPair_26 : decode cX3_coolestPair 26 = .ok (.getfield 45, 3) := by decide +kernel
theorem dX3_coolestPair_29 : decode cX3_coolestPair 29 = .ok (.iload_n 2, 1) := by decide +kernel
theorem dX3_coolestPair_30 : decode cX3_coolestPair 30 = .ok (.aload_n 0, 1) := by decide +kernel
theorem dX3_coolestPair_31 : decode cX3_coolestPair 31 = .ok (.getfield 10, 3) := by decide +kernel
theorem dX3_coolestPair_34 : decode cX3_coolestPair 34 = .ok (.iload_n 2, 1) := by decide +kernel
theorem dX3_coolestPair_35 : decode cX3_coolestPair 35 = .ok (.invokevirtual 109, 3) := by decide +kernel
theorem dX3_coolestPair_38 : decode cX3_coolestPair 38 = .ok (.iastore, 1) := by decide +kernel
theorem dX3_coolestPair_39 : decode cX3_coolestPair 39 = .ok (.aload_n 0, 1) := by decide +kernel
theorem dX3_coolestPair_40 : decode cX3_coolestPair 40 = .ok (.getfield 48, 3) := by decide +kernel
theorem dX3_coolestPair_43 : decode cX3_coolestPair 43 = .ok (.iload_n 2, 1) := by decide +kernel
theorem dX3_coolestPair_44 : decode cX3_coolestPair 44 = .ok (.aload_n 0, 1) := by decide +kernel
theorem dX3_coolestPair_45 : decode cX3_coolestPair 45 = .ok (.getfield 10, 3) := by decide +kernel
theorem dX3_coolestPair_48 : decode cX3_coolestPair 48 = .ok (.iload_n 2, 1) := by decide +kernel
theorem dX3_coolestPair_49 : decode cX3_coolestPair 49 = .ok (.invokevirtual 148, 3) := by decide +kernel
theorem dX3_coolestPair_52 : decode cX3_coolestPair 52 = .ok (.iastore, 1) := by decide +kernel
theorem dX3_coolestPair_53 : decode cX3_coolestPair 53 = .ok (.iinc 2 1, 3) := by decide +kernel
theorem dX3_coolestPair_56 : decode cX3_coolestPair 56 = .ok (.goto (-42), 3) := by decide +kernel
theorem dX3_coolestPair_59 : decode cX3_coolestPair 59 = .ok (.bipush (-6), 2) := by decide +kernel
theorem dX3_coolestPair_61 : decode cX3_coolestPair 61 = .ok (.istore_n 2, 1) := by decide +kernel
theorem dX3_coolestPair_62 : decode cX3_coolestPair 62 = .ok (.bipush (-6), 2) := by decide +kernel
theorem dX3_coolestPair_64 : decode cX3_coolestPair 64 = .ok (.istore_n 3, 1) := by decide +kernel
theorem dX3_coolestPair_65 : decode cX3_coolestPair 65 = .ok (.iconst 0, 1) := by decide +kernel
theorem dX3_coolestPair_66 : decode cX3_coolestPair 66 = .ok (.istore 4, 2) := by decide +kernel
theorem dX3_coolestPair_68 : decode cX3_coolestPair 68 = .ok (.iconst 0, 1) := by decide +kernel
theorem dX3_coolestPair_69 : decode cX3_coolestPair 69 = .ok (.istore 5, 2) := by decide +kernel
theorem dX3_coolestPair_71 : decode cX3_coolestPair 71 = .ok (.iload 5, 2) := by decide +kernel
theorem dX3_coolestPair_73 : decode cX3_coolestPair 73 = .ok (.aload_n 0, 1) := by decide +kernel
theorem dX3_coolestPair_74 : decode cX3_coolestPair 74 = .ok (.getfield 10, 3) := by decide +kernel
theorem dX3_coolestPair_77 : decode cX3_coolestPair 77 = .ok (.getfield 72, 3) := by decide +kernel
theorem dX3_coolestPair_80 : decode cX3_coolestPair 80 = .ok (.if_icmp .ge 90, 3) := by decide +kernel
theorem dX3_coolestPair_83 : decode cX3_coolestPair 83 = .ok (.iload 5, 2) := by decide +kernel
theorem dX3_coolestPair_85 : decode cX3_coolestPair 85 = .ok (.iconst 1, 1) := by decide +kernel
theorem dX3_coolestPair_86 : decode cX3_coolestPair 86 = .ok (.iadd, 1) := by decide +kernel
theorem dX3_coolestPair_87 : decode cX3_coolestPair 87 = .ok (.istore 6, 2) := by decide +kernel
theorem dX3_coolestPair_89 : decode cX3_coolestPair 89 = .ok (.iload 6, 2) := by decide +kernel
theorem dX3_coolestPair_91 : decode cX3_coolestPair 91 = .ok (.aload_n 0, 1) := by decide +kernel
theorem dX3_coolestPair_92 : decode cX3_coolestPair 92 = .ok (.getfield 10, 3) := by decide +kernel
theorem dX3_coolestPair_95 : decode cX3_coolestPair 95 = .ok (.getfield 72, 3) := by decide +kernel
theorem dX3_coolestPair_98 : decode cX3_coolestPair 98 = .ok (.if_icmp .ge 66, 3) := by decide +kernel
theorem dX3_coolestPair_101 : decode cX3_coolestPair 101 = .ok (.aload_n 0, 1) := by decide +kernel
theorem dX3_coolestPair_102 : decode cX3_coolestPair 102 = .ok (.getfield 48, 3) := by decide +kernel
theorem dX3_coolestPair_105 : decode cX3_coolestPair 105 = .ok (.iload 5, 2) := by decide +kernel
theorem dX3_coolestPair_107 : decode cX3_coolestPair 107 = .ok (.iaload, 1) := by decide +kernel
theorem dX3_coolestPair_108 : decode cX3_coolestPair 108 = .ok (.aload_n 0, 1) := by decide +kernel
theorem dX3_coolestPair_109 : decode cX3_coolestPair 109 = .ok (.getfield 48, 3) := by decide +kernel
theorem dX3_coolestPair_112 : decode cX3_coolestPair 112 = .ok (.iload 6, 2) := by decide +kernel
theorem dX3_coolestPair_114 : decode cX3_coolestPair 114 = .ok (.iaload, 1) := by decide +kernel
theorem dX3_coolestPair_115 : decode cX3_coolestPair 115 = .ok (.iadd, 1) := by decide +kernel
theorem dX3_coolestPair_116 : decode cX3_coolestPair 116 = .ok (.istore 7, 2) := by decide +kernel
theorem dX3_coolestPair_118 : decode cX3_coolestPair 118 = .ok (.aload_n 0, 1) := by decide +kernel
theorem dX3_coolestPair_119 : decode cX3_coolestPair 119 = .ok (.getfield 45, 3) := by decide +kernel
theorem dX3_coolestPair_122 : decode cX3_coolestPair 122 = .ok (.iload 5, 2) := by decide +kernel
theorem dX3_coolestPair_124 : decode cX3_coolestPair 124 = .ok (.iaload, 1) := by decide +kernel
theorem dX3_coolestPair_125 : decode cX3_coolestPair 125 = .ok (.aload_n 0, 1) := by decide +kernel
theorem dX3_coolestPair_126 : decode cX3_coolestPair 126 = .ok (.getfield 45, 3) := by decide +kernel
theorem dX3_coolestPair_129 : decode cX3_coolestPair 129 = .ok (.iload 6, 2) := by decide +kernel
theorem dX3_coolestPair_131 : decode cX3_coolestPair 131 = .ok (.iaload, 1) := by decide +kernel
theorem dX3_coolestPair_132 : decode cX3_coolestPair 132 = .ok (.if_icmp .ne 26, 3) := by decide +kernel
theorem dX3_coolestPair_135 : decode cX3_coolestPair 135 = .ok (.iload_n 2, 1) := by decide +kernel
theorem dX3_coolestPair_136 : decode cX3_coolestPair 136 = .ok (.bipush (-6), 2) := by decide +kernel
theorem dX3_coolestPair_138 : decode cX3_coolestPair 138 = .ok (.if_icmp .eq 10, 3) := by decide +kernel
theorem dX3_coolestPair_141 : decode cX3_coolestPair 141 = .ok (.iload 7, 2) := by decide +kernel
theorem dX3_coolestPair_143 : decode cX3_coolestPair 143 = .ok (.iload 4, 2) := by decide +kernel
theorem dX3_coolestPair_145 : decode cX3_coolestPair 145 = .ok (.if_icmp .ge 13, 3) := by decide +kernel
theorem dX3_coolestPair_148 : decode cX3_coolestPair 148 = .ok (.iload 7, 2) := by decide +kernel
theorem dX3_coolestPair_150 : decode cX3_coolestPair 150 = .ok (.istore 4, 2) := by decide +kernel
theorem dX3_coolestPair_152 : decode cX3_coolestPair 152 = .ok (.iload 5, 2) := by decide +kernel
theorem dX3_coolestPair_154 : decode cX3_coolestPair 154 = .ok (.istore_n 2, 1) := by decide +kernel
theorem dX3_coolestPair_155 : decode cX3_coolestPair 155 = .ok (.iload 6, 2) := by decide +kernel
theorem dX3_coolestPair_157 : decode cX3_coolestPair 157 = .ok (.istore_n 3, 1) := by decide +kernel
theorem dX3_coolestPair_158 : decode cX3_coolestPair 158 = .ok (.iinc 6 1, 3) := by decide +kernel
theorem dX3_coolestPair_161 : decode cX3_coolestPair 161 = .ok (.goto (-72), 3) := by decide +kernel
theorem dX3_coolestPair_164 : decode cX3_coolestPair 164 = .ok (.iinc 5 1, 3) := by decide +kernel
theorem dX3_coolestPair_167 : decode cX3_coolestPair 167 = .ok (.goto (-96), 3) := by decide +kernel
theorem dX3_coolestPair_170 : decode cX3_coolestPair 170 = .ok (.iload_n 1, 1) := by decide +kernel
theorem dX3_coolestPair_171 : decode cX3_coolestPair 171 = .ok (.ifCond .ne 7, 3) := by decide +kernel
theorem dX3_coolestPair_174 : decode cX3_coolestPair 174 = .ok (.iload_n 2, 1) := by decide +kernel
theorem dX3_coolestPair_175 : decode cX3_coolestPair 175 = .ok (.goto 4, 3) := by decide +kernel
theorem dX3_coolestPair_178 : decode cX3_coolestPair 178 = .ok (.iload_n 3, 1) := by decide +kernel
theorem dX3_coolestPair_179 : decode cX3_coolestPair 179 = .ok (.ireturn, 1) := by decide +kernel
theorem dX3_put_0 : decode cX3_put 0 = .ok (.lload_n 1, 1) := by decide +kernel
theorem dX3_put_1 : decode cX3_put 1 = .ok (.invokestatic 218, 3) := by decide +kernel
theorem dX3_put_4 : decode cX3_put 4 = .ok (.istore_n 3, 1) := by decide +kernel
theorem dX3_put_5 : decode cX3_put 5 = .ok (.iload_n 3, 1) := by decide +kernel
theorem dX3_put_6 : decode cX3_put 6 = .ok (.ifCond .ne 6, 3) := by decide +kernel
theorem dX3_put_9 : decode cX3_put 9 = .ok (.bipush (-2), 2) := by decide +kernel
theorem dX3_put_11 : decode cX3_put 11 = .ok (.ireturn, 1) := by decide +kernel
theorem dX3_put_12 : decode cX3_put 12 = .ok (.aload_n 0, 1) := by decide +kernel
theorem dX3_put_13 : decode cX3_put 13 = .ok (.getfield 37, 3) := by decide +kernel
theorem dX3_put_16 : decode cX3_put 16 = .ok (.getfield 88, 3) := by decide +kernel
theorem dX3_put_19 : decode cX3_put 19 = .ok (.iload_n 3, 1) := by decide +kernel
theorem dX3_put_20 : decode cX3_put 20 = .ok (.iadd, 1) := by decide +kernel
theorem dX3_put_21 : decode cX3_put 21 = .ok (.bipush 60, 2) := by decide +kernel
theorem dX3_put_23 : decode cX3_put 23 = .ok (.if_icmp .le 6, 3) := by decide +kernel
theorem dX3_put_26 : decode cX3_put 26 = .ok (.bipush (-4), 2) := by decide +kernel
theorem dX3_put_28 : decode cX3_put 28 = .ok (.ireturn, 1) := by decide +kernel
theorem dX3_put_29 : decode cX3_put 29 = .ok (.aload_n 0, 1) := by decide +kernel
theorem dX3_put_30 : decode cX3_put 30 = .ok (.getfield 37, 3) := by decide +kernel
theorem dX3_put_33 : decode cX3_put 33 = .ok (.lload_n 1, 1) := by decide +kernel
theorem dX3_put_34 : decode cX3_put 34 = .ok (.iload_n 3, 1) := by decide +kernel
theorem dX3_put_35 : decode cX3_put 35 = .ok (.invokevirtual 222, 3) := by decide +kernel
theorem dX3_put_38 : decode cX3_put 38 = .ok (.aload_n 0, 1) := by decide +kernel
theorem dX3_put_39 : decode cX3_put 39 = .ok (.getfield 37, 3) := by decide +kernel
theorem dX3_put_42 : decode cX3_put 42 = .ok (.getfield 88, 3) := by decide +kernel
theorem dX3_put_45 : decode cX3_put 45 = .ok (.ireturn, 1) := by decide +kernel
theorem dX3_wipe_0 : decode cX3_wipe 0 = .ok (.aload_n 0, 1) := by decide +kernel
theorem dX3_wipe_1 : decode cX3_wipe 1 = .ok (.getfield 37, 3) := by decide +kernel
theorem dX3_wipe_4 : decode cX3_wipe 4 = .ok (.getfield 88, 3) := by decide +kernel
theorem dX3_wipe_7 : decode cX3_wipe 7 = .ok (.istore_n 1, 1) := by decide +kernel
theorem dX3_wipe_8 : decode cX3_wipe 8 = .ok (.aload_n 0, 1) := by decide +kernel
theorem dX3_wipe_9 : decode cX3_wipe 9 = .ok (.getfield 37, 3) := by decide +kernel
theorem dX3_wipe_12 : decode cX3_wipe 12 = .ok (.iconst 0, 1) := by decide +kernel
theorem dX3_wipe_13 : decode cX3_wipe 13 = .ok (.putfield 88, 3) := by decide +kernel
theorem dX3_wipe_16 : decode cX3_wipe 16 = .ok (.iload_n 1, 1) := by decide +kernel
theorem dX3_wipe_17 : decode cX3_wipe 17 = .ok (.ireturn, 1) := by decide +kernel
theorem dX3_fault_0 : decode cX3_fault 0 = .ok (.aload_n 0, 1) := by decide +kernel
theorem dX3_fault_1 : decode cX3_fault 1 = .ok (.getfield 37, 3) := by decide +kernel
theorem dX3_fault_4 : decode cX3_fault 4 = .ok (.invokevirtual 68, 3) := by decide +kernel
theorem dX3_fault_7 : decode cX3_fault 7 = .ok (.ireturn, 1) := by decide +kernel
theorem dX3_undo_0 : decode cX3_undo 0 = .ok (.aload_n 0, 1) := by decide +kernel
theorem dX3_undo_1 : decode cX3_undo 1 = .ok (.getfield 22, 3) := by decide +kernel
theorem dX3_undo_4 : decode cX3_undo 4 = .ok (.getfield 178, 3) := by decide +kernel
theorem dX3_undo_7 : decode cX3_undo 7 = .ok (.ifCond .ne 6, 3) := by decide +kernel
theorem dX3_undo_10 : decode cX3_undo 10 = .ok (.bipush (-5), 2) := by decide +kernel
theorem dX3_undo_12 : decode cX3_undo 12 = .ok (.ireturn, 1) := by decide +kernel
theorem dX3_undo_13 : decode cX3_undo 13 = .ok (.aload_n 0, 1) := by decide +kernel
theorem dX3_undo_14 : decode cX3_undo 14 = .ok (.getfield 22, 3) := by decide +kernel
theorem dX3_undo_17 : decode cX3_undo 17 = .ok (.aload_n 0, 1) := by decide +kernel
theorem dX3_undo_18 : decode cX3_undo 18 = .ok (.getfield 10, 3) := by decide +kernel
theorem dX3_undo_21 : decode cX3_undo 21 = .ok (.invokevirtual 226, 3) := by decide +kernel
theorem dX3_undo_24 : decode cX3_undo 24 = .ok (.aload_n 0, 1) := by decide +kernel
theorem dX3_undo_25 : decode cX3_undo 25 = .ok (.getfield 22, 3) := by decide +kernel
theorem dX3_undo_28 : decode cX3_undo 28 = .ok (.getfield 178, 3) := by decide +kernel
theorem dX3_undo_31 : decode cX3_undo 31 = .ok (.ireturn, 1) := by decide +kernel
theorem dX3_save_0 : decode cX3_save 0 = .ok (.iload_n 1, 1) := by decide +kernel
theorem dX3_save_1 : decode cX3_save 1 = .ok (.iconst 0, 1) := by decide +kernel
theorem dX3_save_2 : decode cX3_save 2 = .ok (.iconst 1, 1) := by decide +kernel
theorem dX3_save_3 : decode cX3_save 3 = .ok (.invokestatic 51, 3) := by decide +kernel
theorem dX3_save_6 : decode cX3_save 6 = .ok (.ifCond .ne 6, 3) := by decide +kernel
theorem dX3_save_9 : decode cX3_save 9 = .ok (.bipush (-2), 2) := by decide +kernel
theorem dX3_save_11 : decode cX3_save 11 = .ok (.ireturn, 1) := by decide +kernel
theorem dX3_save_12 : decode cX3_save 12 = .ok (.aload_n 0, 1) := by decide +kernel
theorem dX3_save_13 : decode cX3_save 13 = .ok (.getfield 26, 3) := by decide +kernel
theorem dX3_save_16 : decode cX3_save 16 = .ok (.iload_n 1, 1) := by decide +kernel
theorem dX3_save_17 : decode cX3_save 17 = .ok (.aaload, 1) := by decide +kernel
theorem dX3_save_18 : decode cX3_save 18 = .ok (.aload_n 0, 1) := by decide +kernel
theorem dX3_save_19 : decode cX3_save 19 = .ok (.getfield 10, 3) := by decide +kernel
theorem dX3_save_22 : decode cX3_save 22 = .ok (.invokevirtual 113, 3) := by decide +kernel
theorem dX3_save_25 : decode cX3_save 25 = .ok (.aload_n 0, 1) := by decide +kernel
theorem dX3_save_26 : decode cX3_save 26 = .ok (.getfield 30, 3) := by decide +kernel
theorem dX3_save_29 : decode cX3_save 29 = .ok (.iload_n 1, 1) := by decide +kernel
theorem dX3_save_30 : decode cX3_save 30 = .ok (.iconst 1, 1) := by decide +kernel
theorem dX3_save_31 : decode cX3_save 31 = .ok (.bastore, 1) := by decide +kernel
theorem dX3_save_32 : decode cX3_save 32 = .ok (.aload_n 0, 1) := by decide +kernel
theorem dX3_save_33 : decode cX3_save 33 = .ok (.getfield 10, 3) := by decide +kernel
theorem dX3_save_36 : decode cX3_save 36 = .ok (.getfield 72, 3) := by decide +kernel
theorem dX3_save_39 : decode cX3_save 39 = .ok (.ireturn, 1) := by decide +kernel
theorem dX3_restore_0 : decode cX3_restore 0 = .ok (.iload_n 1, 1) := by decide +kernel
theorem dX3_restore_1 : decode cX3_restore 1 = .ok (.iconst 0, 1) := by decide +kernel
theorem dX3_restore_2 : decode cX3_restore 2 = .ok (.iconst 1, 1) := by decide +kernel
theorem dX3_restore_3 : decode cX3_restore 3 = .ok (.invokestatic 51, 3) := by decide +kernel
theorem dX3_restore_6 : decode cX3_restore 6 = .ok (.ifCond .ne 6, 3) := by decide +kernel
theorem dX3_restore_9 : decode cX3_restore 9 = .ok (.bipush (-2), 2) := by decide +kernel
theorem dX3_restore_11 : decode cX3_restore 11 = .ok (.ireturn, 1) := by decide +kernel
theorem dX3_restore_12 : decode cX3_restore 12 = .ok (.aload_n 0, 1) := by decide +kernel
theorem dX3_restore_13 : decode cX3_restore 13 = .ok (.getfield 30, 3) := by decide +kernel
theorem dX3_restore_16 : decode cX3_restore 16 = .ok (.iload_n 1, 1) := by decide +kernel
theorem dX3_restore_17 : decode cX3_restore 17 = .ok (.baload, 1) := by decide +kernel
theorem dX3_restore_18 : decode cX3_restore 18 = .ok (.ifCond .ne 6, 3) := by decide +kernel
theorem dX3_restore_21 : decode cX3_restore 21 = .ok (.bipush (-5), 2) := by decide +kernel
theorem dX3_restore_23 : decode cX3_restore 23 = .ok (.ireturn, 1) := by decide +kernel
theorem dX3_restore_24 : decode cX3_restore 24 = .ok (.aload_n 0, 1) := by decide +kernel
theorem dX3_restore_25 : decode cX3_restore 25 = .ok (.getfield 22, 3) := by decide +kernel
theorem dX3_restore_28 : decode cX3_restore 28 = .ok (.aload_n 0, 1) := by decide +kernel
theorem dX3_restore_29 : decode cX3_restore 29 = .ok (.getfield 10, 3) := by decide +kernel
theorem dX3_restore_32 : decode cX3_restore 32 = .ok (.invokevirtual 61, 3) := by decide +kernel
theorem dX3_restore_35 : decode cX3_restore 35 = .ok (.aload_n 0, 1) := by decide +kernel
theorem dX3_restore_36 : decode cX3_restore 36 = .ok (.getfield 10, 3) := by decide +kernel
theorem dX3_restore_39 : decode cX3_restore 39 = .ok (.aload_n 0, 1) := by decide +kernel
theorem dX3_restore_40 : decode cX3_restore 40 = .ok (.getfield 26, 3) := by decide +kernel
theorem dX3_restore_43 : decode cX3_restore 43 = .ok (.iload_n 1, 1) := by decide +kernel
theorem dX3_restore_44 : decode cX3_restore 44 = .ok (.aaload, 1) := by decide +kernel
theorem dX3_restore_45 : decode cX3_restore 45 = .ok (.invokevirtual 113, 3) := by decide +kernel
theorem dX3_restore_48 : decode cX3_restore 48 = .ok (.aload_n 0, 1) := by decide +kernel
theorem dX3_restore_49 : decode cX3_restore 49 = .ok (.getfield 10, 3) := by decide +kernel
theorem dX3_restore_52 : decode cX3_restore 52 = .ok (.getfield 72, 3) := by decide +kernel
theorem dX3_restore_55 : decode cX3_restore 55 = .ok (.ireturn, 1) := by decide +kernel
theorem dX4_in_0 : decode cX4_in 0 = .ok (.iload_n 0, 1) := by decide +kernel
theorem dX4_in_1 : decode cX4_in 1 = .ok (.iload_n 1, 1) := by decide +kernel
theorem dX4_in_2 : decode cX4_in 2 = .ok (.if_icmp .lt 12, 3) := by decide +kernel
theorem dX4_in_5 : decode cX4_in 5 = .ok (.iload_n 0, 1) := by decide +kernel
theorem dX4_in_6 : decode cX4_in 6 = .ok (.iload_n 2, 1) := by decide +kernel
theorem dX4_in_7 : decode cX4_in 7 = .ok (.if_icmp .gt 7, 3) := by decide +kernel
theorem dX4_in_10 : decode cX4_in 10 = .ok (.iconst 1, 1) := by decide +kernel
theorem dX4_in_11 : decode cX4_in 11 = .ok (.goto 4, 3) := by decide +kernel
theorem dX4_in_14 : decode cX4_in 14 = .ok (.iconst 0, 1) := by decide +kernel
theorem dX4_in_15 : decode cX4_in 15 = .ok (.ireturn, 1) := by decide +kernel
theorem dX4_isStory_0 : decode cX4_isStory 0 = .ok (.iload_n 1, 1) := by decide +kernel
theorem dX4_isStory_1 : decode cX4_isStory 1 = .ok (.iconst 0, 1) := by decide +kernel
theorem dX4_isStory_2 : decode cX4_isStory 2 = .ok (.aload_n 0, 1) := by decide +kernel
theorem dX4_isStory_3 : decode cX4_isStory 3 = .ok (.getfield 7, 3) := by decide +kernel
theorem dX4_isStory_6 : decode cX4_isStory 6 = .ok (.iconst 3, 1) := by decide +kernel
theorem dX4_isStory_7 : decode cX4_isStory 7 = .ok (.iaload, 1) := by decide +kernel
theorem dX4_isStory_8 : decode cX4_isStory 8 = .ok (.iconst 1, 1) := by decide +kernel
theorem dX4_isStory_9 : decode cX4_isStory 9 = .ok (.isub, 1) := by decide +kernel
theorem dX4_isStory_10 : decode cX4_isStory 10 = .ok (.invokestatic 44, 3) := by decide +kernel
theorem dX4_isStory_13 : decode cX4_isStory 13 = .ok (.ireturn, 1) := by decide +kernel
theorem dX4_isWord_0 : decode cX4_isWord 0 = .ok (.aload_n 0, 1) := by decide +kernel
theorem dX4_isWord_1 : decode cX4_isWord 1 = .ok (.iload_n 1, 1) := by decide +kernel
theorem dX4_isWord_2 : decode cX4_isWord 2 = .ok (.invokevirtual 48, 3) := by decide +kernel
theorem dX4_isWord_5 : decode cX4_isWord 5 = .ok (.ifCond .eq 26, 3) := by decide +kernel
theorem dX4_isWord_8 : decode cX4_isWord 8 = .ok (.iload_n 2, 1) := by decide +kernel
theorem dX4_isWord_9 : decode cX4_isWord 9 = .ok (.iconst 0, 1) := by decide +kernel
theorem dX4_isWord_10 : decode cX4_isWord 10 = .ok (.aload_n 0, 1) := by decide +kernel
theorem dX4_isWord_11 : decode cX4_isWord 11 = .ok (.getfield 7, 3) := by decide +kernel
theorem dX4_isWord_14 : decode cX4_isWord 14 = .ok (.bipush 9, 2) := by decide +kernel
theorem dX4_isWord_16 : decode cX4_isWord 16 = .ok (.iload_n 1, 1) := by decide +kernel
theorem dX4_isWord_17 : decode cX4_isWord 17 = .ok (.iadd, 1) := by decide +kernel
theorem dX4_isWord_18 : decode cX4_isWord 18 = .ok (.iaload, 1) := by decide +kernel
theorem dX4_isWord_19 : decode cX4_isWord 19 = .ok (.iconst 1, 1) := by decide +kernel
theorem dX4_isWord_20 : decode cX4_isWord 20 = .ok (.isub, 1) := by decide +kernel
theorem dX4_isWord_21 : decode cX4_isWord 21 = .ok (.invokestatic 44, 3) := by decide +kernel
theorem dX4_isWord_24 : decode cX4_isWord 24 = .ok (.ifCond .eq 7, 3) := by decide +kernel
theorem dX4_isWord_27 : decode cX4_isWord 27 = .ok (.iconst 1, 1) := by decide +kernel
theorem dX4_isWord_28 : decode cX4_isWord 28 = .ok (.goto 4, 3) := by decide +kernel
theorem dX4_isWord_31 : decode cX4_isWord 31 = .ok (.iconst 0, 1) := by decide +kernel
theorem dX4_isWord_32 : decode cX4_isWord 32 = .ok (.ireturn, 1) := by decide +kernel
theorem dX4_first_0 : decode cX4_first 0 = .ok (.iconst 0, 1) := by decide +kernel
theorem dX4_first_1 : decode cX4_first 1 = .ok (.istore_n 2, 1) := by decide +kernel
theorem dX4_first_2 : decode cX4_first 2 = .ok (.iconst 0, 1) := by decide +kernel
theorem dX4_first_3 : decode cX4_first 3 = .ok (.istore_n 3, 1) := by decide +kernel
theorem dX4_first_4 : decode cX4_first 4 = .ok (.iload_n 3, 1) := by decide +kernel
theorem dX4_first_5 : decode cX4_first 5 = .ok (.iload_n 1, 1) := by decide +kernel
theorem dX4_first_6 : decode cX4_first 6 = .ok (.if_icmp .ge 21, 3) := by decide +kernel
theorem dX4_first_9 : decode cX4_first 9 = .ok (.iload_n 2, 1) := by decide +kernel
theorem dX4_first_10 : decode cX4_first 10 = .ok (.aload_n 0, 1) := by decide +kernel
theorem dX4_first_11 : decode cX4_first 11 = .ok (.getfield 7, 3) := by decide +kernel
theorem dX4_first_14 : decode cX4_first 14 = .ok (.bipush 9, 2) := by decide +kernel
theorem dX4_first_16 : decode cX4_first 16 = .ok (.iload_n 3, 1) := by decide +kernel
theorem dX4_first_17 : decode cX4_first 17 = .ok (.iadd, 1) := by decide +kernel
theorem dX4_first_18 : decode cX4_first 18 = .ok (.iaload, 1) := by decide +kernel
theorem dX4_first_19 : decode cX4_first 19 = .ok (.iadd, 1) := by decide +kernel
theorem dX4_first_20 : decode cX4_first 20 = .ok (.istore_n 2, 1) := by decide +kernel
theorem dX4_first_21 : decode cX4_first 21 = .ok (.iinc 3 1, 3) := by decide +kernel
theorem dX4_first_24 : decode cX4_first 24 = .ok (.goto (-20), 3) := by decide +kernel
theorem dX4_first_27 : decode cX4_first 27 = .ok (.iload_n 2, 1) := by decide +kernel
theorem dX4_first_28 : decode cX4_first 28 = .ok (.ireturn, 1) := by decide +kernel
theorem dX4_know_0 : decode cX4_know 0 = .ok (.aload_n 0, 1) := by decide +kernel
theorem dX4_know_1 : decode cX4_know 1 = .ok (.getfield 52, 3) := by decide +kernel
theorem dX4_know_4 : decode cX4_know 4 = .ok (.bipush 6, 2) := by decide +kernel
theorem dX4_know_6 : decode cX4_know 6 = .ok (.if_icmp .ne 44, 3) := by decide +kernel
theorem dX4_know_9 : decode cX4_know 9 = .ok (.iconst 0, 1) := by decide +kernel
theorem dX4_know_10 : decode cX4_know 10 = .ok (.istore_n 1, 1) := by decide +kernel
theorem dX4_know_11 : decode cX4_know 11 = .ok (.iload_n 1, 1) := by decide +kernel
theorem dX4_know_12 : decode cX4_know 12 = .ok (.sipush 1725, 3) := by decide +kernel
theorem dX4_know_15 : decode cX4_know 15 = .ok (.if_icmp .ge 25, 3) := by decide +kernel
theorem dX4_know_18 : decode cX4_know 18 = .ok (.aload_n 0, 1) := by decide +kernel
theorem dX4_know_19 : decode cX4_know 19 = .ok (.getfield 16, 3) := by decide +kernel
theorem dX4_know_22 : decode cX4_know 22 = .ok (.iload_n 1, 1) := by decide +kernel
theorem dX4_know_23 : decode cX4_know 23 = .ok (.aload_n 0, 1) := by decide +kernel
theorem dX4_know_24 : decode cX4_know 24 = .ok (.getfield 16, 3) := by decide +kernel
theorem dX4_know_27 : decode cX4_know 27 = .ok (.sipush 345, 3) := by decide +kernel
theorem dX4_know_30 : decode cX4_know 30 = .ok (.iload_n 1, 1) := by decide +kernel
theorem dX4_know_31 : decode cX4_know 31 = .ok (.iadd, 1) := by decide +kernel
theorem dX4_know_32 : decode cX4_know 32 = .ok (.iaload, 1) := by decide +kernel
theorem dX4_know_33 : decode cX4_know 33 = .ok (.iastore, 1) := by decide +kernel
theorem dX4_know_34 : decode cX4_know 34 = .ok (.iinc 1 1, 3) := by decide +kernel
theorem dX4_know_37 : decode cX4_know 37 = .ok (.goto (-26), 3) := by decide +kernel
theorem dX4_know_40 : decode cX4_know 40 = .ok (.aload_n 0, 1) := by decide +kernel
theorem dX4_know_41 : decode cX4_know 41 = .ok (.dup, 1) := by decide +kernel
theorem dX4_know_42 : decode cX4_know 42 = .ok (.getfield 52, 3) := by decide +kernel
theorem dX4_know_45 : decode cX4_know 45 = .ok (.iconst 1, 1) := by decide +kernel
theorem dX4_know_46 : decode cX4_know 46 = .ok (.isub, 1) := by decide +kernel
theorem dX4_know_47 : decode cX4_know 47 = .ok (.putfield 52, 3) := by decide +kernel
theorem dX4_know_50 : decode cX4_know 50 = .ok (.iconst 0, 1) := by decide +kernel
theorem dX4_know_51 : decode cX4_know 51 = .ok (.istore_n 1, 1) := by decide +kernel
theorem dX4_know_52 : decode cX4_know 52 = .ok (.iload_n 1, 1) := by decide +kernel
theorem dX4_know_53 : decode cX4_know 53 = .ok (.sipush 345, 3) := by decide +kernel
theorem dX4_know_56 : decode cX4_know 56 = .ok (.if_icmp .ge 30, 3) := by decide +kernel
theorem dX4_know_59 : decode cX4_know 59 = .ok (.aload_n 0, 1) := by decide +kernel
theorem dX4_know_60 : decode cX4_know 60 = .ok (.getfield 16, 3) := by decide +kernel
theorem dX4_know_63 : decode cX4_know 63 = .ok (.sipush 345, 3) := by decide +kernel
theorem dX4_know_66 : decode cX4_know 66 = .ok (.aload_n 0, 1) := by decide +kernel
theorem dX4_know_67 : decode cX4_know 67 = .ok (.getfield 52, 3) := by decide +kernel
theorem dX4_know_70 : decode cX4_know 70 = .ok (.imul, 1) := by decide +kernel
theorem dX4_know_71 : decode cX4_know 71 = .ok (.iload_n 1, 1) := by decide +kernel
theorem dX4_know_72 : decode cX4_know 72 = .ok (.iadd, 1) := by decide +kernel
theorem dX4_know_73 : decode cX4_know 73 = .ok (.aload_n 0, 1) := by decide +kernel
theorem dX4_know_74 : decode cX4_know 74 = .ok (.getfield 7, 3) := by decide +kernel
theorem dX4_know_77 : decode cX4_know 77 = .ok (.iload_n 1, 1) := by decide +kernel
theorem dX4_know_78 : decode cX4_know 78 = .ok (.iaload, 1) := by decide +kernel
theorem dX4_know_79 : decode cX4_know 79 = .ok (.iastore, 1) := by decide +kernel
theorem dX4_know_80 : decode cX4_know 80 = .ok (.iinc 1 1, 3) := by decide +kernel
theorem dX4_know_83 : decode cX4_know 83 = .ok (.goto (-31), 3) := by decide +kernel
theorem dX4_know_86 : decode cX4_know 86 = .ok (.aload_n 0, 1) := by decide +kernel
theorem dX4_know_87 : decode cX4_know 87 = .ok (.dup, 1) := by decide +kernel
theorem dX4_know_88 : decode cX4_know 88 = .ok (.getfield 52, 3) := by decide +kernel
theorem dX4_know_91 : decode cX4_know 91 = .ok (.iconst 1, 1) := by decide +kernel
theorem dX4_know_92 : decode cX4_know 92 = .ok (.iadd, 1) := by decide +kernel
theorem dX4_know_93 : decode cX4_know 93 = .ok (.putfield 52, 3) := by decide +kernel
theorem dX4_know_96 : decode cX4_know 96 = .ok (.return_, 1) := by decide +kernel
theorem dX4_putAside_0 : decode cX4_putAside 0 = .ok (.iconst 0, 1) := by decide +kernel
theorem dX4_putAside_1 : decode cX4_putAside 1 = .ok (.istore_n 1, 1) := by decide +kernel
theorem dX4_putAside_2 : decode cX4_putAside 2 = .ok (.iload_n 1, 1) := by decide +kernel
theorem dX4_putAside_3 : decode cX4_putAside 3 = .ok (.sipush 345, 3) := by decide +kernel
theorem dX4_putAside_6 : decode cX4_putAside 6 = .ok (.if_icmp .ge 21, 3) := by decide +kernel
theorem dX4_putAside_9 : decode cX4_putAside 9 = .ok (.aload_n 0, 1) := by decide +kernel
theorem dX4_putAside_10 : decode cX4_putAside 10 = .ok (.getfield 13, 3) := by decide +kernel
theorem dX4_putAside_13 : decode cX4_putAside 13 = .ok (.iload_n 1, 1) := by decide +kernel
theorem dX4_putAside_14 : decode cX4_putAside 14 = .ok (.aload_n 0, 1) := by decide +kernel
theorem dX4_putAside_15 : decode cX4_putAside 15 = .ok (.getfield 7, 3) := by decide +kernel
theorem dX4_putAside_18 : decode cX4_putAside 18 = .ok (.iload_n 1, 1) := by decide +kernel
theorem dX4_putAside_19 : decode cX4_putAside 19 = .ok (.iaload, 1) := by decide +kernel
theorem dX4_putAside_20 : decode cX4_putAside 20 = .ok (.iastore, 1) := by decide +kernel
theorem dX4_putAside_21 : decode cX4_putAside 21 = .ok (.iinc 1 1, 3) := by decide +kernel
theorem dX4_putAside_24 : decode cX4_putAside 24 = .ok (.goto (-22), 3) := by decide +kernel
theorem dX4_putAside_27 : decode cX4_putAside 27 = .ok (.return_, 1) := by decide +kernel
theorem dX4_putBack_0 : decode cX4_putBack 0 = .ok (.iconst 0, 1) := by decide +kernel
theorem dX4_putBack_1 : decode cX4_putBack 1 = .ok (.istore_n 1, 1) := by decide +kernel
theorem dX4_putBack_2 : decode cX4_putBack 2 = .ok (.iload_n 1, 1) := by decide +kernel
theorem dX4_putBack_3 : decode cX4_putBack 3 = .ok (.sipush 345, 3) := by decide +kernel
theorem dX4_putBack_6 : decode cX4_putBack 6 = .ok (.if_icmp .ge 21, 3) := by decide +kernel
theorem dX4_putBack_9 : decode cX4_putBack 9 = .ok (.aload_n 0, 1) := by decide +kernel
theorem dX4_putBack_10 : decode cX4_putBack 10 = .ok (.getfield 7, 3) := by decide +kernel
theorem dX4_putBack_13 : decode cX4_putBack 13 = .ok (.iload_n 1, 1) := by decide +kernel
theorem dX4_putBack_14 : decode cX4_putBack 14 = .ok (.aload_n 0, 1) := by decide +kernel
theorem dX4_putBack_15 : decode cX4_putBack 15 = .ok (.getfield 13, 3) := by decide +kernel
theorem dX4_putBack_18 : decode cX4_putBack 18 = .ok (.iload_n 1, 1) := by decide +kernel
theorem dX4_putBack_19 : decode cX4_putBack 19 = .ok (.iaload, 1) := by decide +kernel
theorem dX4_putBack_20 : decode cX4_putBack 20 = .ok (.iastore, 1) := by decide +kernel
theorem dX4_putBack_21 : decode cX4_putBack 21 = .ok (.iinc 1 1, 3) := by decide +kernel
theorem dX4_putBack_24 : decode cX4_putBack 24 = .ok (.goto (-22), 3) := by decide +kernel
theorem dX4_putBack_27 : decode cX4_putBack 27 = .ok (.return_, 1) := by decide +kernel
theorem dX4_warm_0 : decode cX4_warm 0 = .ok (.aload_n 0, 1) := by decide +kernel
theorem dX4_warm_1 : decode cX4_warm 1 = .ok (.getfield 7, 3) := by decide +kernel
theorem dX4_warm_4 : decode cX4_warm 4 = .ok (.sipush 195, 3) := by decide +kernel
theorem dX4_warm_7 : decode cX4_warm 7 = .ok (.iload_n 1, 1) := by decide +kernel
theorem dX4_warm_8 : decode cX4_warm 8 = .ok (.iadd, 1) := by decide +kernel
theorem dX4_warm_9 : decode cX4_warm 9 = .ok (.iaload, 1) := by decide +kernel
theorem dX4_warm_10 : decode cX4_warm 10 = .ok (.iload_n 2, 1) := by decide +kernel
theorem dX4_warm_11 : decode cX4_warm 11 = .ok (.iadd, 1) := by decide +kernel
theorem dX4_warm_12 : decode cX4_warm 12 = .ok (.istore_n 3, 1) := by decide +kernel
theorem dX4_warm_13 : decode cX4_warm 13 = .ok (.aload_n 0, 1) := by decide +kernel
theorem dX4_warm_14 : decode cX4_warm 14 = .ok (.getfield 7, 3) := by decide +kernel
theorem dX4_warm_17 : decode cX4_warm 17 = .ok (.sipush 195, 3) := by decide +kernel
theorem dX4_warm_20 : decode cX4_warm 20 = .ok (.iload_n 1, 1) := by decide +kernel
theorem dX4_warm_21 : decode cX4_warm 21 = .ok (.iadd, 1) := by decide +kernel
theorem dX4_warm_22 : decode cX4_warm 22 = .ok (.iload_n 3, 1) := by decide +kernel
theorem dX4_warm_23 : decode cX4_warm 23 = .ok (.sipush 999, 3) := by decide +kernel
theorem dX4_warm_26 : decode cX4_warm 26 = .ok (.if_icmp .le 9, 3) := by decide +kernel
theorem dX4_warm_29 : decode cX4_warm 29 = .ok (.sipush 999, 3) := by decide +kernel
theorem dX4_warm_32 : decode cX4_warm 32 = .ok (.goto 4, 3) := by decide +kernel
theorem dX4_warm_35 : decode cX4_warm 35 = .ok (.iload_n 3, 1) := by decide +kernel
theorem dX4_warm_36 : decode cX4_warm 36 = .ok (.iastore, 1) := by decide +kernel
theorem dX4_warm_37 : decode cX4_warm 37 = .ok (.return_, 1) := by decide +kernel
theorem dX4_storyOf_0 : decode cX4_storyOf 0 = .ok (.iconst 0, 1) := by decide +kernel
theorem dX4_storyOf_1 : decode cX4_storyOf 1 = .ok (.istore_n 2, 1) := by decide +kernel
theorem dX4_storyOf_2 : decode cX4_storyOf 2 = .ok (.iload_n 1, 1) := by decide +kernel
theorem dX4_storyOf_3 : decode cX4_storyOf 3 = .ok (.istore_n 3, 1) := by decide +kernel
theorem dX4_storyOf_4 : decode cX4_storyOf 4 = .ok (.iload_n 3, 1) := by decide +kernel
theorem dX4_storyOf_5 : decode cX4_storyOf 5 = .ok (.aload_n 0, 1) := by decide +kernel
theorem dX4_storyOf_6 : decode cX4_storyOf 6 = .ok (.getfield 7, 3) := by decide +kernel
theorem dX4_storyOf_9 : decode cX4_storyOf 9 = .ok (.bipush 9, 2) := by decide +kernel
theorem dX4_storyOf_11 : decode cX4_storyOf 11 = .ok (.iload_n 2, 1) := by decide +kernel
theorem dX4_storyOf_12 : decode cX4_storyOf 12 = .ok (.iadd, 1) := by decide +kernel
theorem dX4_storyOf_13 : decode cX4_storyOf 13 = .ok (.iaload, 1) := by decide +kernel
theorem dX4_storyOf_14 : decode cX4_storyOf 14 = .ok (.if_icmp .lt 21, 3) := by decide +kernel
theorem dX4_storyOf_17 : decode cX4_storyOf 17 = .ok (.iload_n 3, 1) := by decide +kernel
theorem dX4_storyOf_18 : decode cX4_storyOf 18 = .ok (.aload_n 0, 1) := by decide +kernel
theorem dX4_storyOf_19 : decode cX4_storyOf 19 = .ok (.getfield 7, 3) := by decide +kernel
theorem dX4_storyOf_22 : decode cX4_storyOf 22 = .ok (.bipush 9, 2) := by decide +kernel
theorem dX4_storyOf_24 : decode cX4_storyOf 24 = .ok (.iload_n 2, 1) := by decide +kernel
theorem dX4_storyOf_25 : decode cX4_storyOf 25 = .ok (.iadd, 1) := by decide +kernel
theorem dX4_storyOf_26 : decode cX4_storyOf 26 = .ok (.iaload, 1) := by decide +kernel
theorem dX4_storyOf_27 : decode cX4_storyOf 27 = .ok (.isub, 1) := by decide +kernel
theorem dX4_storyOf_28 : decode cX4_storyOf 28 = .ok (.istore_n 3, 1) := by decide +kernel
theorem dX4_storyOf_29 : decode cX4_storyOf 29 = .ok (.iinc 2 1, 3) := by decide +kernel
theorem dX4_storyOf_32 : decode cX4_storyOf 32 = .ok (.goto (-28), 3) := by decide +kernel
theorem dX4_storyOf_35 : decode cX4_storyOf 35 = .ok (.iload_n 2, 1) := by decide +kernel
theorem dX4_storyOf_36 : decode cX4_storyOf 36 = .ok (.ireturn, 1) := by decide +kernel
theorem dX4_split_0 : decode cX4_split 0 = .ok (.aload_n 0, 1) := by decide +kernel
theorem dX4_split_1 : decode cX4_split 1 = .ok (.getfield 7, 3) := by decide +kernel
theorem dX4_split_4 : decode cX4_split 4 = .ok (.iconst 3, 1) := by decide +kernel
theorem dX4_split_5 : decode cX4_split 5 = .ok (.iaload, 1) := by decide +kernel
theorem dX4_split_6 : decode cX4_split 6 = .ok (.istore_n 3, 1) := by decide +kernel
theorem dX4_split_7 : decode cX4_split 7 = .ok (.iload_n 3, 1) := by decide +kernel
theorem dX4_split_8 : decode cX4_split 8 = .ok (.iload_n 1, 1) := by decide +kernel
theorem dX4_split_9 : decode cX4_split 9 = .ok (.iconst 1, 1) := by decide +kernel
theorem dX4_split_10 : decode cX4_split 10 = .ok (.iadd, 1) := by decide +kernel
theorem dX4_split_11 : decode cX4_split 11 = .ok (.if_icmp .le 69, 3) := by decide +kernel
theorem dX4_split_14 : decode cX4_split 14 = .ok (.aload_n 0, 1) := by decide +kernel
theorem dX4_split_15 : decode cX4_split 15 = .ok (.getfield 7, 3) := by decide +kernel
theorem dX4_split_18 : decode cX4_split 18 = .ok (.bipush 9, 2) := by decide +kernel
theorem dX4_split_20 : decode cX4_split 20 = .ok (.iload_n 3, 1) := by decide +kernel
theorem dX4_split_21 : decode cX4_split 21 = .ok (.iadd, 1) := by decide +kernel
theorem dX4_split_22 : decode cX4_split 22 = .ok (.aload_n 0, 1) := by decide +kernel
theorem dX4_split_23 : decode cX4_split 23 = .ok (.getfield 7, 3) := by decide +kernel
theorem dX4_split_26 : decode cX4_split 26 = .ok (.bipush 9, 2) := by decide +kernel
theorem dX4_split_28 : decode cX4_split 28 = .ok (.iload_n 3, 1) := by decide +kernel
theorem dX4_split_29 : decode cX4_split 29 = .ok (.iadd, 1) := by decide +kernel
theorem dX4_split_30 : decode cX4_split 30 = .ok (.iconst 1, 1) := by decide +kernel
theorem dX4_split_31 : decode cX4_split 31 = .ok (.isub, 1) := by decide +kernel
theorem dX4_split_32 : decode cX4_split 32 = .ok (.iaload, 1) := by decide +kernel
theorem dX4_split_33 : decode cX4_split 33 = .ok (.iastore, 1) := by decide +kernel
theorem dX4_split_34 : decode cX4_split 34 = .ok (.aload_n 0, 1) := by decide +kernel
theorem dX4_split_35 : decode cX4_split 35 = .ok (.getfield 7, 3) := by decide +kernel
theorem dX4_split_38 : decode cX4_split 38 = .ok (.bipush 21, 2) := by decide +kernel
theorem dX4_split_40 : decode cX4_split 40 = .ok (.iload_n 3, 1) := by decide +kernel
theorem dX4_split_41 : decode cX4_split 41 = .ok (.iadd, 1) := by decide +kernel
theorem dX4_split_42 : decode cX4_split 42 = .ok (.aload_n 0, 1) := by decide +kernel
theorem dX4_split_43 : decode cX4_split 43 = .ok (.getfield 7, 3) := by decide +kernel
theorem dX4_split_46 : decode cX4_split 46 = .ok (.bipush 21, 2) := by decide +kernel
theorem dX4_split_48 : decode cX4_split 48 = .ok (.iload_n 3, 1) := by decide +kernel
theorem dX4_split_49 : decode cX4_split 49 = .ok (.iadd, 1) := by decide +kernel
theorem dX4_split_50 : decode cX4_split 50 = .ok (.iconst 1, 1) := by decide +kernel
theorem dX4_split_51 : decode cX4_split 51 = .ok (.isub, 1) := by decide +kernel
theorem dX4_split_52 : decode cX4_split 52 = .ok (.iaload, 1) := by decide +kernel
theorem dX4_split_53 : decode cX4_split 53 = .ok (.iastore, 1) := by decide +kernel
theorem dX4_split_54 : decode cX4_split 54 = .ok (.aload_n 0, 1) := by decide +kernel
theorem dX4_split_55 : decode cX4_split 55 = .ok (.getfield 7, 3) := by decide +kernel
theorem dX4_split_58 : decode cX4_split 58 = .ok (.bipush 33, 2) := by decide +kernel
theorem dX4_split_60 : decode cX4_split 60 = .ok (.iload_n 3, 1) := by decide +kernel
theorem dX4_split_61 : decode cX4_split 61 = .ok (.iadd, 1) := by decide +kernel
theorem dX4_split_62 : decode cX4_split 62 = .ok (.aload_n 0, 1) := by decide +kernel
theorem dX4_split_63 : decode cX4_split 63 = .ok (.getfield 7, 3) := by decide +kernel
theorem dX4_split_66 : decode cX4_split 66 = .ok (.bipush 33, 2) := by decide +kernel
theorem dX4_split_68 : decode cX4_split 68 = .ok (.iload_n 3, 1) := by decide +kernel
theorem dX4_split_69 : decode cX4_split 69 = .ok (.iadd, 1) := by decide +kernel
theorem dX4_split_70 : decode cX4_split 70 = .ok (.iconst 1, 1) := by decide +kernel
theorem dX4_split_71 : decode cX4_split 71 = .ok (.isub, 1) := by decide +kernel
theorem dX4_split_72 : decode cX4_split 72 = .ok (.iaload, 1) := by decide +kernel
theorem dX4_split_73 : decode cX4_split 73 = .ok (.iastore, 1) := by decide +kernel
theorem dX4_split_74 : decode cX4_split 74 = .ok (.iinc 3 (-1), 3) := by decide +kernel
theorem dX4_split_77 : decode cX4_split 77 = .ok (.goto (-70), 3) := by decide +kernel
theorem dX4_split_80 : decode cX4_split 80 = .ok (.aload_n 0, 1) := by decide +kernel
theorem dX4_split_81 : decode cX4_split 81 = .ok (.getfield 7, 3) := by decide +kernel
theorem dX4_split_84 : decode cX4_split 84 = .ok (.bipush 9, 2) := by decide +kernel
theorem dX4_split_86 : decode cX4_split 86 = .ok (.iload_n 1, 1) := by decide +kernel
theorem dX4_split_87 : decode cX4_split 87 = .ok (.iadd, 1) := by decide +kernel
theorem dX4_split_88 : decode cX4_split 88 = .ok (.iconst 1, 1) := by decide +kernel
theorem dX4_split_89 : decode cX4_split 89 = .ok (.iadd, 1) := by decide +kernel
theorem dX4_split_90 : decode cX4_split 90 = .ok (.aload_n 0, 1) := by decide +kernel
theorem dX4_split_91 : decode cX4_split 91 = .ok (.getfield 7, 3) := by decide +kernel
theorem dX4_split_94 : decode cX4_split 94 = .ok (.bipush 9, 2) := by decide +kernel
theorem dX4_split_96 : decode cX4_split 96 = .ok (.iload_n 1, 1) := by decide +kernel
theorem dX4_split_97 : decode cX4_split 97 = .ok (.iadd, 1) := by decide +kernel
theorem dX4_split_98 : decode cX4_split 98 = .ok (.iaload, 1) := by decide +kernel
theorem dX4_split_99 : decode cX4_split 99 = .ok (.iload_n 2, 1) := by decide +kernel
theorem dX4_split_100 : decode cX4_split 100 = .ok (.isub, 1) := by decide +kernel
theorem dX4_split_101 : decode cX4_split 101 = .ok (.iastore, 1) := by decide +kernel
theorem dX4_split_102 : decode cX4_split 102 = .ok (.aload_n 0, 1) := by decide +kernel
theorem dX4_split_103 : decode cX4_split 103 = .ok (.getfield 7, 3) := by decide +kernel
theorem dX4_split_106 : decode cX4_split 106 = .ok (.bipush 9, 2) := by decide +kernel
theorem dX4_split_108 : decode cX4_split 108 = .ok (.iload_n 1, 1) := by decide +kernel
theorem dX4_split_109 : decode cX4_split 109 = .ok (.iadd, 1) := by decide +kernel
theorem dX4_split_110 : decode cX4_split 110 = .ok (.iload_n 2, 1) := by decide +kernel
theorem dX4_split_111 : decode cX4_split 111 = .ok (.iastore, 1) := by decide +kernel
theorem dX4_split_112 : decode cX4_split 112 = .ok (.aload_n 0, 1) := by decide +kernel
theorem dX4_split_113 : decode cX4_split 113 = .ok (.getfield 7, 3) := by decide +kernel
theorem dX4_split_116 : decode cX4_split 116 = .ok (.bipush 21, 2) := by decide +kernel
theorem dX4_split_118 : decode cX4_split 118 = .ok (.iload_n 1, 1) := by decide +kernel
theorem dX4_split_119 : decode cX4_split 119 = .ok (.iadd, 1) := by decide +kernel
theorem dX4_split_120 : decode cX4_split 120 = .ok (.iconst 1, 1) := by decide +kernel
theorem dX4_split_121 : decode cX4_split 121 = .ok (.iadd, 1) := by decide +kernel
theorem dX4_split_122 : decode cX4_split 122 = .ok (.aload_n 0, 1) := by decide +kernel
theorem dX4_split_123 : decode cX4_split 123 = .ok (.getfield 7, 3) := by decide +kernel
theorem dX4_split_126 : decode cX4_split 126 = .ok (.bipush 21, 2) := by decide +kernel
theorem dX4_split_128 : decode cX4_split 128 = .ok (.iload_n 1, 1) := by decide +kernel
theorem dX4_split_129 : decode cX4_split 129 = .ok (.iadd, 1) := by decide +kernel
theorem dX4_split_130 : decode cX4_split 130 = .ok (.iaload, 1) := by decide +kernel
theorem dX4_split_131 : decode cX4_split 131 = .ok (.iastore, 1) := by decide +kernel
theorem dX4_split_132 : decode cX4_split 132 = .ok (.aload_n 0, 1) := by decide +kernel
theorem dX4_split_133 : decode cX4_split 133 = .ok (.getfield 7, 3) := by decide +kernel
theorem dX4_split_136 : decode cX4_split 136 = .ok (.bipush 33, 2) := by decide +kernel
theorem dX4_split_138 : decode cX4_split 138 = .ok (.iload_n 1, 1) := by decide +kernel
theorem dX4_split_139 : decode cX4_split 139 = .ok (.iadd, 1) := by decide +kernel
theorem dX4_split_140 : decode cX4_split 140 = .ok (.iconst 1, 1) := by decide +kernel
theorem dX4_split_141 : decode cX4_split 141 = .ok (.iadd, 1) := by decide +kernel
theorem dX4_split_142 : decode cX4_split 142 = .ok (.aload_n 0, 1) := by decide +kernel
theorem dX4_split_143 : decode cX4_split 143 = .ok (.getfield 7, 3) := by decide +kernel
theorem dX4_split_146 : decode cX4_split 146 = .ok (.bipush 33, 2) := by decide +kernel
theorem dX4_split_148 : decode cX4_split 148 = .ok (.iload_n 1, 1) := by decide +kernel
theorem dX4_split_149 : decode cX4_split 149 = .ok (.iadd, 1) := by decide +kernel
theorem dX4_split_150 : decode cX4_split 150 = .ok (.iaload, 1) := by decide +kernel
theorem dX4_split_151 : decode cX4_split 151 = .ok (.iconst 1, 1) := by decide +kernel
theorem dX4_split_152 : decode cX4_split 152 = .ok (.iadd, 1) := by decide +kernel
theorem dX4_split_153 : decode cX4_split 153 = .ok (.iastore, 1) := by decide +kernel
theorem dX4_split_154 : decode cX4_split 154 = .ok (.aload_n 0, 1) := by decide +kernel
theorem dX4_split_155 : decode cX4_split 155 = .ok (.getfield 7, 3) := by decide +kernel
theorem dX4_split_158 : decode cX4_split 158 = .ok (.iconst 3, 1) := by decide +kernel
theorem dX4_split_159 : decode cX4_split 159 = .ok (.dup2, 1) := by decide +kernel
theorem dX4_split_160 : decode cX4_split 160 = .ok (.iaload, 1) := by decide +kernel
theorem dX4_split_161 : decode cX4_split 161 = .ok (.iconst 1, 1) := by decide +kernel
theorem dX4_split_162 : decode cX4_split 162 = .ok (.iadd, 1) := by decide +kernel
theorem dX4_split_163 : decode cX4_split 163 = .ok (.iastore, 1) := by decide +kernel
theorem dX4_split_164 : decode cX4_split 164 = .ok (.return_, 1) := by decide +kernel
theorem ggX3_critical_X2_hasWord : GoodIn wsX3_critical wsX2_hasWord := goodIn_r _ [15, 16, 17, 18, 14, 19, 20, 21, 22, 23, 24, 25, 26, 27, 28, 93, 94, 95, 96, 97, 98, 99, 100, 101, 102, 103, 104] rfl (by decide +kernel)
theorem gX3_critical_X2_hasWord : GoodIn wsX3_critical (wsV RX3 94 RX2 yX2_hasWord wsX2_hasWord) := goodIn_app (goodIn_r _ [11, 12, 13, 14] rfl (by decide +kernel)) ggX3_critical_X2_hasWord
theorem ggX3_critical_X2_isCalm : GoodIn wsX3_critical wsX2_isCalm := goodIn_r _ [32, 33, 34, 35, 36, 37, 14, 38, 28, 20, 93, 94, 95, 96, 97, 98, 99, 100, 101, 102, 103, 104] rfl (by decide +kernel)
theorem gX3_critical_X2_isCalm : GoodIn wsX3_critical (wsV RX3 214 RX2 yX2_isCalm wsX2_isCalm) := goodIn_app (goodIn_r _ [29, 30, 31, 14] rfl (by decide +kernel)) ggX3_critical_X2_isCalm
theorem ggX3_critical_X3_tryHeating : GoodIn wsX3_critical wsX3_tryHeating := goodIn_r _ [42, 9, 1, 43, 44, 45, 14, 46, 34, 47, 48, 49, 50, 51, 33, 28, 20, 52, 53, 54, 55, 56, 57, 35, 36, 37, 38, 58, 59, 60, 61, 62, 63, 7, 64, 65, 66, 67, 68, 69, 70, 6, 8, 71, 72, 73, 74, 75, 76, 77, 78, 79, 80, 81, 82, 83, 84, 85, 86, 87, 88, 89, 90, 91, 92, 93, 94, 95, 96, 97, 98, 99, 100, 101, 102, 103, 104] rfl (by decide +kernel)
theorem gX3_critical_X3_tryHeating : GoodIn wsX3_critical (wsV RX3 211 RX3 yX3_tryHeating wsX3_tryHeating) := goodIn_app (goodIn_r _ [39, 40, 41, 22] rfl (by decide +kernel)) ggX3_critical_X3_tryHeating
theorem ggX3_touchiest_X3_isWithin : GoodIn wsX3_touchiest wsX3_isWithin := goodIn_r _ [8] rfl (by decide +kernel)
theorem gX3_touchiest_X3_isWithin : GoodIn wsX3_touchiest (va_wsS RX3 51 yX3_isWithin wsX3_isWithin) := goodIn_app (goodIn_r _ [5, 6, 7] rfl (by decide +kernel)) ggX3_touchiest_X3_isWithin
theorem ggX3_touchiest_X2_isCalm : GoodIn wsX3_touchiest wsX2_isCalm := goodIn_r _ [13, 14, 15, 16, 17, 18, 12, 19, 20, 21, 86, 87, 88, 89, 90, 91, 92, 93, 94, 95, 96, 97] rfl (by decide +kernel)
theorem gX3_touchiest_X2_isCalm : GoodIn wsX3_touchiest (wsV RX3 214 RX2 yX2_isCalm wsX2_isCalm) := goodIn_app (goodIn_r _ [9, 10, 11, 12] rfl (by decide +kernel)) ggX3_touchiest_X2_isCalm
theorem ggX3_touchiest_X2_words : GoodIn wsX3_touchiest wsX2_words := goodIn_r _ [19, 20, 21, 86, 87, 88, 89, 90, 91, 92, 93, 94, 95, 96, 97] rfl (by decide +kernel)
theorem gX3_touchiest_X2_words : GoodIn wsX3_touchiest (wsV RX3 79 RX2 yX2_words wsX2_words) := goodIn_app (goodIn_r _ [22, 17, 18, 12] rfl (by decide +kernel)) ggX3_touchiest_X2_words
theorem ggX3_touchiest_X3_tryHeating : GoodIn wsX3_touchiest wsX3_tryHeating := goodIn_r _ [26, 27, 1, 28, 29, 30, 12, 31, 15, 32, 33, 34, 35, 36, 14, 20, 21, 37, 38, 39, 40, 41, 42, 16, 17, 18, 19, 43, 44, 45, 46, 47, 48, 49, 50, 51, 52, 53, 54, 55, 56, 57, 58, 59, 60, 61, 62, 63, 64, 65, 66, 67, 68, 69, 70, 71, 77, 78, 79, 80, 81, 82, 83, 84, 85, 86, 87, 88, 89, 90, 91, 92, 93, 94, 95, 96, 97] rfl (by decide +kernel)
theorem gX3_touchiest_X3_tryHeating : GoodIn wsX3_touchiest (wsV RX3 211 RX3 yX3_tryHeating wsX3_tryHeating) := goodIn_app (goodIn_r _ [23, 24, 25, 7] rfl (by decide +kernel)) ggX3_touchiest_X3_tryHeating
theorem ggX3_touchiest_X2_storyAt : GoodIn wsX3_touchiest wsX2_storyAt := goodIn_r _ [66, 21, 20, 86, 87, 88, 89, 90, 91, 92, 93, 94, 95, 96, 97] rfl (by decide +kernel)
theorem gX3_touchiest_X2_storyAt : GoodIn wsX3_touchiest (wsV RX3 199 RX2 yX2_storyAt wsX2_storyAt) := goodIn_app (goodIn_r _ [72, 64, 65, 12] rfl (by decide +kernel)) ggX3_touchiest_X2_storyAt
theorem ggX3_touchiest_X2_placeOf : GoodIn wsX3_touchiest wsX2_placeOf := goodIn_r _ [76, 20, 63, 64, 65, 12, 66, 21, 86, 87, 88, 89, 90, 91, 92, 93, 94, 95, 96, 97] rfl (by decide +kernel)
theorem gX3_touchiest_X2_placeOf : GoodIn wsX3_touchiest (wsV RX3 202 RX2 yX2_placeOf wsX2_placeOf) := goodIn_app (goodIn_r _ [73, 74, 75, 12] rfl (by decide +kernel)) ggX3_touchiest_X2_placeOf
theorem ggX3_coolestPair_X3_isWithin : GoodIn wsX3_coolestPair wsX3_isWithin := goodIn_r _ [8] rfl (by decide +kernel)
theorem gX3_coolestPair_X3_isWithin : GoodIn wsX3_coolestPair (va_wsS RX3 51 yX3_isWithin wsX3_isWithin) := goodIn_app (goodIn_r _ [5, 6, 7] rfl (by decide +kernel)) ggX3_coolestPair_X3_isWithin
theorem ggX3_coolestPair_X2_themeOf : GoodIn wsX3_coolestPair wsX2_themeOf := goodIn_r _ [13, 14, 15, 16, 17, 12, 18, 19, 20, 21, 22, 23, 24, 43, 44, 45, 46, 47, 48, 49, 50, 51, 52, 53, 54] rfl (by decide +kernel)
theorem gX3_coolestPair_X2_themeOf : GoodIn wsX3_coolestPair (wsV RX3 109 RX2 yX2_themeOf wsX2_themeOf) := goodIn_app (goodIn_r _ [9, 10, 11, 12] rfl (by decide +kernel)) ggX3_coolestPair_X2_themeOf
theorem ggX3_coolestPair_X2_heatOf : GoodIn wsX3_coolestPair wsX2_heatOf := goodIn_r _ [28, 19, 29, 30, 31, 12, 32, 33, 43, 44, 45, 46, 47, 48, 49, 50, 51, 52, 53, 54] rfl (by decide +kernel)
theorem gX3_coolestPair_X2_heatOf : GoodIn wsX3_coolestPair (wsV RX3 148 RX2 yX2_heatOf wsX2_heatOf) := goodIn_app (goodIn_r _ [25, 26, 27, 12] rfl (by decide +kernel)) ggX3_coolestPair_X2_heatOf
theorem ggX3_put_X1_charactersIn : GoodIn wsX3_put wsX1_charactersIn := goodIn_r _ [6, 7, 8, 9, 10] rfl (by decide +kernel)
theorem gX3_put_X1_charactersIn : GoodIn wsX3_put (va_wsS RX3 218 yX1_charactersIn wsX1_charactersIn) := goodIn_app (goodIn_r _ [3, 4, 5] rfl (by decide +kernel)) ggX3_put_X1_charactersIn
theorem ggX3_put_X1_add : GoodIn wsX3_put wsX1_add := goodIn_r _ [14, 15, 16, 7, 26, 27] rfl (by decide +kernel)
theorem gX3_put_X1_add : GoodIn wsX3_put (wsV RX3 222 RX1 yX1_add wsX1_add) := goodIn_app (goodIn_r _ [11, 12, 13, 5] rfl (by decide +kernel)) ggX3_put_X1_add
theorem ggX3_fault_X1_firstFault : GoodIn wsX3_fault wsX1_firstFault := goodIn_r _ [6, 7, 8, 9, 10, 5, 11, 12, 13, 14, 15, 16, 17, 27, 28] rfl (by decide +kernel)
theorem gX3_fault_X1_firstFault : GoodIn wsX3_fault (wsV RX3 68 RX1 yX1_firstFault wsX1_firstFault) := goodIn_app (goodIn_r _ [2, 3, 4, 5] rfl (by decide +kernel)) ggX3_fault_X1_firstFault
theorem ggX3_undo_X0_takeBack : GoodIn wsX3_undo wsX0_takeBack := goodIn_r _ [8, 9, 10, 11, 12, 13, 14, 15, 16, 17, 18, 19, 20, 21, 22, 23, 24, 25, 26, 27, 28, 29, 30, 31, 32, 33, 34, 35, 45, 46, 47, 48, 49, 50, 51, 52, 53, 54, 55, 56, 57, 58, 59] rfl (by decide +kernel)
theorem gX3_undo_X0_takeBack : GoodIn wsX3_undo (wsV RX3 226 RX0 yX0_takeBack wsX0_takeBack) := goodIn_app (goodIn_r _ [4, 5, 6, 7] rfl (by decide +kernel)) ggX3_undo_X0_takeBack
theorem ggX3_save_X3_isWithin : GoodIn wsX3_save wsX3_isWithin := goodIn_r _ [8] rfl (by decide +kernel)
theorem gX3_save_X3_isWithin : GoodIn wsX3_save (va_wsS RX3 51 yX3_isWithin wsX3_isWithin) := goodIn_app (goodIn_r _ [5, 6, 7] rfl (by decide +kernel)) ggX3_save_X3_isWithin
theorem ggX3_save_X2_copyFrom : GoodIn wsX3_save wsX2_copyFrom := goodIn_r _ [13, 14, 15, 16, 17, 18, 19, 20, 21, 22, 23, 24, 25, 26, 27, 28, 29, 30, 31, 12, 32, 42, 43, 44, 45, 46, 47, 48, 49, 50, 51, 52, 53] rfl (by decide +kernel)
theorem gX3_save_X2_copyFrom : GoodIn wsX3_save (wsV RX3 113 RX2 yX2_copyFrom wsX2_copyFrom) := goodIn_app (goodIn_r _ [9, 10, 11, 12] rfl (by decide +kernel)) ggX3_save_X2_copyFrom
theorem ggX3_restore_X3_isWithin : GoodIn wsX3_restore wsX3_isWithin := goodIn_r _ [9] rfl (by decide +kernel)
theorem gX3_restore_X3_isWithin : GoodIn wsX3_restore (va_wsS RX3 51 yX3_isWithin wsX3_isWithin) := goodIn_app (goodIn_r _ [6, 7, 8] rfl (by decide +kernel)) ggX3_restore_X3_isWithin
theorem ggX3_restore_X0_record : GoodIn wsX3_restore wsX0_record := goodIn_r _ [14, 15, 16, 17, 18, 19, 20, 21, 22, 23, 24, 25, 26, 27, 28, 29, 30, 31, 32, 33, 34, 35, 36, 37, 38, 39, 40, 41, 64, 65, 66, 52, 53, 54, 55, 56, 57, 58, 59, 60, 61, 62, 63] rfl (by decide +kernel)
theorem gX3_restore_X0_record : GoodIn wsX3_restore (wsV RX3 61 RX0 yX0_record wsX0_record) := goodIn_app (goodIn_r _ [10, 11, 12, 13] rfl (by decide +kernel)) ggX3_restore_X0_record
theorem ggX3_restore_X2_copyFrom : GoodIn wsX3_restore wsX2_copyFrom := goodIn_r _ [22, 23, 24, 25, 26, 27, 28, 29, 30, 31, 32, 33, 34, 35, 36, 37, 38, 39, 40, 21, 41, 52, 53, 54, 55, 56, 57, 58, 59, 60, 61, 62, 63] rfl (by decide +kernel)
theorem gX3_restore_X2_copyFrom : GoodIn wsX3_restore (wsV RX3 113 RX2 yX2_copyFrom wsX2_copyFrom) := goodIn_app (goodIn_r _ [42, 19, 20, 21] rfl (by decide +kernel)) ggX3_restore_X2_copyFrom
theorem ggX4_isStory_X4_in : GoodIn wsX4_isStory wsX4_in := goodIn_r _ [5] rfl (by decide +kernel)
theorem gX4_isStory_X4_in : GoodIn wsX4_isStory (va_wsS RX4 44 yX4_in wsX4_in) := goodIn_app (goodIn_r _ [2, 3, 4] rfl (by decide +kernel)) ggX4_isStory_X4_in
theorem ggX4_isWord_X4_isStory : GoodIn wsX4_isWord wsX4_isStory := goodIn_r _ [6, 1, 7, 8, 5, 9, 10, 11, 12, 13, 14, 15, 16, 17, 18, 19, 20, 21, 22, 23, 24, 25, 26, 27, 28, 29, 30] rfl (by decide +kernel)
theorem gX4_isWord_X4_isStory : GoodIn wsX4_isWord (wsV RX4 48 RX4 yX4_isStory wsX4_isStory) := goodIn_app (goodIn_r _ [2, 3, 4, 5] rfl (by decide +kernel)) ggX4_isWord_X4_isStory
theorem ggX4_isWord_X4_in : GoodIn wsX4_isWord wsX4_in := goodIn_r _ [9] rfl (by decide +kernel)
theorem gX4_isWord_X4_in : GoodIn wsX4_isWord (va_wsS RX4 44 yX4_in wsX4_in) := goodIn_app (goodIn_r _ [7, 8, 5] rfl (by decide +kernel)) ggX4_isWord_X4_in
