theorem dX4_common_0 : decode cX4_common 0 = .ok (.aload_n 0, 1) := by decide +kernel
theorem dX4_common_1 : decode cX4_common 1 = .ok (.iload_n 1, 1) := by decide +kernel
theorem dX4_common_2 : decode cX4_common 2 = .ok (.invokevirtual 48, 3) := by decide +kernel
theorem dX4_common_5 : decode cX4_common 5 = .ok (.ifCond .eq 11, 3) := by decide +kernel
theorem dX4_common_8 : decode cX4_common 8 = .ok (.aload_n 0, 1) := by decide +kernel
theorem dX4_common_9 : decode cX4_common 9 = .ok (.iload_n 2, 1) := by decide +kernel
theorem dX4_common_10 : decode cX4_common 10 = .ok (.invokevirtual 48, 3) := by decide +kernel
theorem dX4_common_13 : decode cX4_common 13 = .ok (.ifCond .ne 5, 3) := by decide +kernel
theorem dX4_common_16 : decode cX4_common 16 = .ok (.iconst (-1), 1) := by decide +kernel
theorem dX4_common_17 : decode cX4_common 17 = .ok (.ireturn, 1) := by decide +kernel
theorem dX4_common_18 : decode cX4_common 18 = .ok (.iconst 0, 1) := by decide +kernel
theorem dX4_common_19 : decode cX4_common 19 = .ok (.istore_n 3, 1) := by decide +kernel
theorem dX4_common_20 : decode cX4_common 20 = .ok (.bipush 45, 2) := by decide +kernel
theorem dX4_common_22 : decode cX4_common 22 = .ok (.aload_n 0, 1) := by decide +kernel
theorem dX4_common_23 : decode cX4_common 23 = .ok (.iload_n 1, 1) := by decide +kernel
theorem dX4_common_24 : decode cX4_common 24 = .ok (.invokevirtual 60, 3) := by decide +kernel
theorem dX4_common_27 : decode cX4_common 27 = .ok (.iadd, 1) := by decide +kernel
theorem dX4_common_28 : decode cX4_common 28 = .ok (.istore 4, 2) := by decide +kernel
theorem dX4_common_30 : decode cX4_common 30 = .ok (.bipush 45, 2) := by decide +kernel
theorem dX4_common_32 : decode cX4_common 32 = .ok (.aload_n 0, 1) := by decide +kernel
theorem dX4_common_33 : decode cX4_common 33 = .ok (.iload_n 2, 1) := by decide +kernel
theorem dX4_common_34 : decode cX4_common 34 = .ok (.invokevirtual 60, 3) := by decide +kernel
theorem dX4_common_37 : decode cX4_common 37 = .ok (.iadd, 1) := by decide +kernel
theorem dX4_common_38 : decode cX4_common 38 = .ok (.istore 5, 2) := by decide +kernel
theorem dX4_common_40 : decode cX4_common 40 = .ok (.iconst 0, 1) := by decide +kernel
theorem dX4_common_41 : decode cX4_common 41 = .ok (.istore 6, 2) := by decide +kernel
theorem dX4_common_43 : decode cX4_common 43 = .ok (.iload 6, 2) := by decide +kernel
theorem dX4_common_45 : decode cX4_common 45 = .ok (.aload_n 0, 1) := by decide +kernel
theorem dX4_common_46 : decode cX4_common 46 = .ok (.getfield 7, 3) := by decide +kernel
theorem dX4_common_49 : decode cX4_common 49 = .ok (.bipush 9, 2) := by decide +kernel
theorem dX4_common_51 : decode cX4_common 51 = .ok (.iload_n 1, 1) := by decide +kernel
theorem dX4_common_52 : decode cX4_common 52 = .ok (.iadd, 1) := by decide +kernel
theorem dX4_common_53 : decode cX4_common 53 = .ok (.iaload, 1) := by decide +kernel
theorem dX4_common_54 : decode cX4_common 54 = .ok (.if_icmp .ge 117, 3) := by decide +kernel
theorem dX4_common_57 : decode cX4_common 57 = .ok (.iconst 0, 1) := by decide +kernel
theorem dX4_common_58 : decode cX4_common 58 = .ok (.istore 7, 2) := by decide +kernel
theorem dX4_common_60 : decode cX4_common 60 = .ok (.iload 7, 2) := by decide +kernel
theorem dX4_common_62 : decode cX4_common 62 = .ok (.aload_n 0, 1) := by decide +kernel
theorem dX4_common_63 : decode cX4_common 63 = .ok (.getfield 7, 3) := by decide +kernel
theorem dX4_common_66 : decode cX4_common 66 = .ok (.bipush 9, 2) := by decide +kernel
theorem dX4_common_68 : decode cX4_common 68 = .ok (.iload_n 2, 1) := by decide +kernel
theorem dX4_common_69 : decode cX4_common 69 = .ok (.iadd, 1) := by decide +kernel
theorem dX4_common_70 : decode cX4_common 70 = .ok (.iaload, 1) := by decide +kernel
theorem dX4_common_71 : decode cX4_common 71 = .ok (.if_icmp .ge 94, 3) := by decide +kernel
theorem dX4_common_74 : decode cX4_common 74 = .ok (.iconst 0, 1) := by decide +kernel
theorem dX4_common_75 : decode cX4_common 75 = .ok (.istore 8, 2) := by decide +kernel
theorem dX4_common_77 : decode cX4_common 77 = .ok (.iload 6, 2) := by decide +kernel
theorem dX4_common_79 : decode cX4_common 79 = .ok (.iload 8, 2) := by decide +kernel
theorem dX4_common_81 : decode cX4_common 81 = .ok (.iadd, 1) := by decide +kernel
theorem dX4_common_82 : decode cX4_common 82 = .ok (.aload_n 0, 1) := by decide +kernel
theorem dX4_common_83 : decode cX4_common 83 = .ok (.getfield 7, 3) := by decide +kernel
theorem dX4_common_86 : decode cX4_common 86 = .ok (.bipush 9, 2) := by decide +kernel
theorem dX4_common_88 : decode cX4_common 88 = .ok (.iload_n 1, 1) := by decide +kernel
theorem dX4_common_89 : decode cX4_common 89 = .ok (.iadd, 1) := by decide +kernel
theorem dX4_common_90 : decode cX4_common 90 = .ok (.iaload, 1) := by decide +kernel
theorem dX4_common_91 : decode cX4_common 91 = .ok (.if_icmp .ge 55, 3) := by decide +kernel
theorem dX4_common_94 : decode cX4_common 94 = .ok (.iload 7, 2) := by decide +kernel
theorem dX4_common_96 : decode cX4_common 96 = .ok (.iload 8, 2) := by decide +kernel
theorem dX4_common_98 : decode cX4_common 98 = .ok (.iadd, 1) := by decide +kernel
theorem dX4_common_99 : decode cX4_common 99 = .ok (.aload_n 0, 1) := by decide +kernel
theorem dX4_common_100 : decode cX4_common 100 = .ok (.getfield 7, 3) := by decide +kernel
theorem dX4_common_103 : decode cX4_common 103 = .ok (.bipush 9, 2) := by decide +kernel
theorem dX4_common_105 : decode cX4_common 105 = .ok (.iload_n 2, 1) := by decide +kernel
theorem dX4_common_106 : decode cX4_common 106 = .ok (.iadd, 1) := by decide +kernel
theorem dX4_common_107 : decode cX4_common 107 = .ok (.iaload, 1) := by decide +kernel
theorem dX4_common_108 : decode cX4_common 108 = .ok (.if_icmp .ge 38, 3) := by decide +kernel
theorem dX4_common_111 : decode cX4_common 111 = .ok (.aload_n 0, 1) := by decide +kernel
theorem dX4_common_112 : decode cX4_common 112 = .ok (.getfield 7, 3) := by decide +kernel
theorem dX4_common_115 : decode cX4_common 115 = .ok (.iload 4, 2) := by decide +kernel
theorem dX4_common_117 : decode cX4_common 117 = .ok (.iload 6, 2) := by decide +kernel
theorem dX4_common_119 : decode cX4_common 119 = .ok (.iadd, 1) := by decide +kernel
theorem dX4_common_120 : decode cX4_common 120 = .ok (.iload 8, 2) := by decide +kernel
theorem dX4_common_122 : decode cX4_common 122 = .ok (.iadd, 1) := by decide +kernel
theorem dX4_common_123 : decode cX4_common 123 = .ok (.iaload, 1) := by decide +kernel
theorem dX4_common_124 : decode cX4_common 124 = .ok (.aload_n 0, 1) := by decide +kernel
theorem dX4_common_125 : decode cX4_common 125 = .ok (.getfield 7, 3) := by decide +kernel
theorem dX4_common_128 : decode cX4_common 128 = .ok (.iload 5, 2) := by decide +kernel
theorem dX4_common_130 : decode cX4_common 130 = .ok (.iload 7, 2) := by decide +kernel
theorem dX4_common_132 : decode cX4_common 132 = .ok (.iadd, 1) := by decide +kernel
theorem dX4_common_133 : decode cX4_common 133 = .ok (.iload 8, 2) := by decide +kernel
theorem dX4_common_135 : decode cX4_common 135 = .ok (.iadd, 1) := by decide +kernel
theorem dX4_common_136 : decode cX4_common 136 = .ok (.iaload, 1) := by decide +kernel
theorem dX4_common_137 : decode cX4_common 137 = .ok (.if_icmp .ne 9, 3) := by decide +kernel
theorem dX4_common_140 : decode cX4_common 140 = .ok (.iinc 8 1, 3) := by decide +kernel
theorem dX4_common_143 : decode cX4_common 143 = .ok (.goto (-66), 3) := by decide +kernel
theorem dX4_common_146 : decode cX4_common 146 = .ok (.iload 8, 2) := by decide +kernel
theorem dX4_common_148 : decode cX4_common 148 = .ok (.iload_n 3, 1) := by decide +kernel
theorem dX4_common_149 : decode cX4_common 149 = .ok (.if_icmp .le 8, 3) := by decide +kernel
theorem dX4_common_152 : decode cX4_common 152 = .ok (.iload 8, 2) := by decide +kernel
theorem dX4_common_154 : decode cX4_common 154 = .ok (.goto 4, 3) := by decide +kernel
theorem dX4_common_157 : decode cX4_common 157 = .ok (.iload_n 3, 1) := by decide +kernel
theorem dX4_common_158 : decode cX4_common 158 = .ok (.istore_n 3, 1) := by decide +kernel
theorem dX4_common_159 : decode cX4_common 159 = .ok (.iinc 7 1, 3) := by decide +kernel
theorem dX4_common_162 : decode cX4_common 162 = .ok (.goto (-102), 3) := by decide +kernel
theorem dX4_common_165 : decode cX4_common 165 = .ok (.iinc 6 1, 3) := by decide +kernel
theorem dX4_common_168 : decode cX4_common 168 = .ok (.goto (-125), 3) := by decide +kernel
theorem dX4_common_171 : decode cX4_common 171 = .ok (.iload_n 3, 1) := by decide +kernel
theorem dX4_common_172 : decode cX4_common 172 = .ok (.ireturn, 1) := by decide +kernel
theorem dX4_tryHeat_0 : decode cX4_tryHeat 0 = .ok (.aload_n 0, 1) := by decide +kernel
theorem dX4_tryHeat_1 : decode cX4_tryHeat 1 = .ok (.invokevirtual 122, 3) := by decide +kernel
theorem dX4_tryHeat_4 : decode cX4_tryHeat 4 = .ok (.aload_n 0, 1) := by decide +kernel
theorem dX4_tryHeat_5 : decode cX4_tryHeat 5 = .ok (.iload_n 1, 1) := by decide +kernel
theorem dX4_tryHeat_6 : decode cX4_tryHeat 6 = .ok (.iload_n 2, 1) := by decide +kernel
theorem dX4_tryHeat_7 : decode cX4_tryHeat 7 = .ok (.invokevirtual 67, 3) := by decide +kernel
theorem dX4_tryHeat_10 : decode cX4_tryHeat 10 = .ok (.aload_n 0, 1) := by decide +kernel
theorem dX4_tryHeat_11 : decode cX4_tryHeat 11 = .ok (.aload_n 0, 1) := by decide +kernel
theorem dX4_tryHeat_12 : decode cX4_tryHeat 12 = .ok (.invokevirtual 85, 3) := by decide +kernel
theorem dX4_tryHeat_15 : decode cX4_tryHeat 15 = .ok (.putfield 125, 3) := by decide +kernel
theorem dX4_tryHeat_18 : decode cX4_tryHeat 18 = .ok (.aload_n 0, 1) := by decide +kernel
theorem dX4_tryHeat_19 : decode cX4_tryHeat 19 = .ok (.aload_n 0, 1) := by decide +kernel
theorem dX4_tryHeat_20 : decode cX4_tryHeat 20 = .ok (.getfield 7, 3) := by decide +kernel
theorem dX4_tryHeat_23 : decode cX4_tryHeat 23 = .ok (.bipush 6, 2) := by decide +kernel
theorem dX4_tryHeat_25 : decode cX4_tryHeat 25 = .ok (.iaload, 1) := by decide +kernel
theorem dX4_tryHeat_26 : decode cX4_tryHeat 26 = .ok (.aload_n 0, 1) := by decide +kernel
theorem dX4_tryHeat_27 : decode cX4_tryHeat 27 = .ok (.getfield 13, 3) := by decide +kernel
theorem dX4_tryHeat_30 : decode cX4_tryHeat 30 = .ok (.bipush 6, 2) := by decide +kernel
theorem dX4_tryHeat_32 : decode cX4_tryHeat 32 = .ok (.iaload, 1) := by decide +kernel
theorem dX4_tryHeat_33 : decode cX4_tryHeat 33 = .ok (.isub, 1) := by decide +kernel
theorem dX4_tryHeat_34 : decode cX4_tryHeat 34 = .ok (.putfield 128, 3) := by decide +kernel
theorem dX4_tryHeat_37 : decode cX4_tryHeat 37 = .ok (.aload_n 0, 1) := by decide +kernel
theorem dX4_tryHeat_38 : decode cX4_tryHeat 38 = .ok (.aload_n 0, 1) := by decide +kernel
theorem dX4_tryHeat_39 : decode cX4_tryHeat 39 = .ok (.getfield 7, 3) := by decide +kernel
theorem dX4_tryHeat_42 : decode cX4_tryHeat 42 = .ok (.iconst 3, 1) := by decide +kernel
theorem dX4_tryHeat_43 : decode cX4_tryHeat 43 = .ok (.iaload, 1) := by decide +kernel
theorem dX4_tryHeat_44 : decode cX4_tryHeat 44 = .ok (.putfield 131, 3) := by decide +kernel
theorem dX4_tryHeat_47 : decode cX4_tryHeat 47 = .ok (.aload_n 0, 1) := by decide +kernel
theorem dX4_tryHeat_48 : decode cX4_tryHeat 48 = .ok (.aload_n 0, 1) := by decide +kernel
theorem dX4_tryHeat_49 : decode cX4_tryHeat 49 = .ok (.invokevirtual 98, 3) := by decide +kernel
theorem dX4_tryHeat_52 : decode cX4_tryHeat 52 = .ok (.putfield 134, 3) := by decide +kernel
theorem dX4_tryHeat_55 : decode cX4_tryHeat 55 = .ok (.aload_n 0, 1) := by decide +kernel
theorem dX4_tryHeat_56 : decode cX4_tryHeat 56 = .ok (.invokevirtual 137, 3) := by decide +kernel
theorem dX4_tryHeat_59 : decode cX4_tryHeat 59 = .ok (.return_, 1) := by decide +kernel
theorem dX4_ifHeated_0 : decode cX4_ifHeated 0 = .ok (.aload_n 0, 1) := by decide +kernel
theorem dX4_ifHeated_1 : decode cX4_ifHeated 1 = .ok (.iload_n 1, 1) := by decide +kernel
theorem dX4_ifHeated_2 : decode cX4_ifHeated 2 = .ok (.iload_n 2, 1) := by decide +kernel
theorem dX4_ifHeated_3 : decode cX4_ifHeated 3 = .ok (.invokevirtual 81, 3) := by decide +kernel
theorem dX4_ifHeated_6 : decode cX4_ifHeated 6 = .ok (.ifCond .ne 5, 3) := by decide +kernel
theorem dX4_ifHeated_9 : decode cX4_ifHeated 9 = .ok (.iconst (-1), 1) := by decide +kernel
theorem dX4_ifHeated_10 : decode cX4_ifHeated 10 = .ok (.ireturn, 1) := by decide +kernel
theorem dX4_ifHeated_11 : decode cX4_ifHeated 11 = .ok (.iload_n 3, 1) := by decide +kernel
theorem dX4_ifHeated_12 : decode cX4_ifHeated 12 = .ok (.iconst 1, 1) := by decide +kernel
theorem dX4_ifHeated_13 : decode cX4_ifHeated 13 = .ok (.sipush 500, 3) := by decide +kernel
theorem dX4_ifHeated_16 : decode cX4_ifHeated 16 = .ok (.invokestatic 44, 3) := by decide +kernel
theorem dX4_ifHeated_19 : decode cX4_ifHeated 19 = .ok (.ifCond .eq 13, 3) := by decide +kernel
theorem dX4_ifHeated_22 : decode cX4_ifHeated 22 = .ok (.iload 4, 2) := by decide +kernel
theorem dX4_ifHeated_24 : decode cX4_ifHeated 24 = .ok (.iconst 0, 1) := by decide +kernel
theorem dX4_ifHeated_25 : decode cX4_ifHeated 25 = .ok (.iconst 3, 1) := by decide +kernel
theorem dX4_ifHeated_26 : decode cX4_ifHeated 26 = .ok (.invokestatic 44, 3) := by decide +kernel
theorem dX4_ifHeated_29 : decode cX4_ifHeated 29 = .ok (.ifCond .ne 6, 3) := by decide +kernel
theorem dX4_ifHeated_32 : decode cX4_ifHeated 32 = .ok (.bipush (-2), 2) := by decide +kernel
theorem dX4_ifHeated_34 : decode cX4_ifHeated 34 = .ok (.ireturn, 1) := by decide +kernel
theorem dX4_ifHeated_35 : decode cX4_ifHeated 35 = .ok (.aload_n 0, 1) := by decide +kernel
theorem dX4_ifHeated_36 : decode cX4_ifHeated 36 = .ok (.aload_n 0, 1) := by decide +kernel
theorem dX4_ifHeated_37 : decode cX4_ifHeated 37 = .ok (.iload_n 1, 1) := by decide +kernel
theorem dX4_ifHeated_38 : decode cX4_ifHeated 38 = .ok (.invokevirtual 60, 3) := by decide +kernel
theorem dX4_ifHeated_41 : decode cX4_ifHeated 41 = .ok (.iload_n 2, 1) := by decide +kernel
theorem dX4_ifHeated_42 : decode cX4_ifHeated 42 = .ok (.iadd, 1) := by decide +kernel
theorem dX4_ifHeated_43 : decode cX4_ifHeated 43 = .ok (.iload_n 3, 1) := by decide +kernel
theorem dX4_ifHeated_44 : decode cX4_ifHeated 44 = .ok (.invokevirtual 140, 3) := by decide +kernel
theorem dX4_ifHeated_47 : decode cX4_ifHeated 47 = .ok (.iload 4, 2) := by decide +kernel
theorem dX4_ifHeated_49 : decode cX4_ifHeated 49 = .ok (.ifCond .ne 10, 3) := by decide +kernel
theorem dX4_ifHeated_52 : decode cX4_ifHeated 52 = .ok (.aload_n 0, 1) := by decide +kernel
theorem dX4_ifHeated_53 : decode cX4_ifHeated 53 = .ok (.getfield 125, 3) := by decide +kernel
theorem dX4_ifHeated_56 : decode cX4_ifHeated 56 = .ok (.goto 33, 3) := by decide +kernel
theorem dX4_ifHeated_59 : decode cX4_ifHeated 59 = .ok (.iload 4, 2) := by decide +kernel
theorem dX4_ifHeated_61 : decode cX4_ifHeated 61 = .ok (.iconst 1, 1) := by decide +kernel
theorem dX4_ifHeated_62 : decode cX4_ifHeated 62 = .ok (.if_icmp .ne 10, 3) := by decide +kernel
theorem dX4_ifHeated_65 : decode cX4_ifHeated 65 = .ok (.aload_n 0, 1) := by decide +kernel
theorem dX4_ifHeated_66 : decode cX4_ifHeated 66 = .ok (.getfield 128, 3) := by decide +kernel
theorem dX4_ifHeated_69 : decode cX4_ifHeated 69 = .ok (.goto 20, 3) := by decide +kernel
theorem dX4_ifHeated_72 : decode cX4_ifHeated 72 = .ok (.iload 4, 2) := by decide +kernel
theorem dX4_ifHeated_74 : decode cX4_ifHeated 74 = .ok (.iconst 2, 1) := by decide +kernel
theorem dX4_ifHeated_75 : decode cX4_ifHeated 75 = .ok (.if_icmp .ne 10, 3) := by decide +kernel
theorem dX4_ifHeated_78 : decode cX4_ifHeated 78 = .ok (.aload_n 0, 1) := by decide +kernel
theorem dX4_ifHeated_79 : decode cX4_ifHeated 79 = .ok (.getfield 131, 3) := by decide +kernel
theorem dX4_ifHeated_82 : decode cX4_ifHeated 82 = .ok (.goto 7, 3) := by decide +kernel
theorem dX4_ifHeated_85 : decode cX4_ifHeated 85 = .ok (.aload_n 0, 1) := by decide +kernel
theorem dX4_ifHeated_86 : decode cX4_ifHeated 86 = .ok (.getfield 134, 3) := by decide +kernel
theorem dX4_ifHeated_89 : decode cX4_ifHeated 89 = .ok (.ireturn, 1) := by decide +kernel
theorem dX4_critical_0 : decode cX4_critical 0 = .ok (.aload_n 0, 1) := by decide +kernel
theorem dX4_critical_1 : decode cX4_critical 1 = .ok (.iload_n 1, 1) := by decide +kernel
theorem dX4_critical_2 : decode cX4_critical 2 = .ok (.iload_n 2, 1) := by decide +kernel
theorem dX4_critical_3 : decode cX4_critical 3 = .ok (.invokevirtual 81, 3) := by decide +kernel
theorem dX4_critical_6 : decode cX4_critical 6 = .ok (.ifCond .ne 5, 3) := by decide +kernel
theorem dX4_critical_9 : decode cX4_critical 9 = .ok (.iconst (-1), 1) := by decide +kernel
theorem dX4_critical_10 : decode cX4_critical 10 = .ok (.ireturn, 1) := by decide +kernel
theorem dX4_critical_11 : decode cX4_critical 11 = .ok (.iconst 1, 1) := by decide +kernel
theorem dX4_critical_12 : decode cX4_critical 12 = .ok (.istore_n 3, 1) := by decide +kernel
theorem dX4_critical_13 : decode cX4_critical 13 = .ok (.iload_n 3, 1) := by decide +kernel
theorem dX4_critical_14 : decode cX4_critical 14 = .ok (.sipush 500, 3) := by decide +kernel
theorem dX4_critical_17 : decode cX4_critical 17 = .ok (.if_icmp .gt 30, 3) := by decide +kernel
theorem dX4_critical_20 : decode cX4_critical 20 = .ok (.aload_n 0, 1) := by decide +kernel
theorem dX4_critical_21 : decode cX4_critical 21 = .ok (.aload_n 0, 1) := by decide +kernel
theorem dX4_critical_22 : decode cX4_critical 22 = .ok (.iload_n 1, 1) := by decide +kernel
theorem dX4_critical_23 : decode cX4_critical 23 = .ok (.invokevirtual 60, 3) := by decide +kernel
theorem dX4_critical_26 : decode cX4_critical 26 = .ok (.iload_n 2, 1) := by decide +kernel
theorem dX4_critical_27 : decode cX4_critical 27 = .ok (.iadd, 1) := by decide +kernel
theorem dX4_critical_28 : decode cX4_critical 28 = .ok (.iload_n 3, 1) := by decide +kernel
theorem dX4_critical_29 : decode cX4_critical 29 = .ok (.invokevirtual 140, 3) := by decide +kernel
theorem dX4_critical_32 : decode cX4_critical 32 = .ok (.aload_n 0, 1) := by decide +kernel
theorem dX4_critical_33 : decode cX4_critical 33 = .ok (.getfield 128, 3) := by decide +kernel
theorem dX4_critical_36 : decode cX4_critical 36 = .ok (.ifCond .le 5, 3) := by decide +kernel
theorem dX4_critical_39 : decode cX4_critical 39 = .ok (.iload_n 3, 1) := by decide +kernel
theorem dX4_critical_40 : decode cX4_critical 40 = .ok (.ireturn, 1) := by decide +kernel
theorem dX4_critical_41 : decode cX4_critical 41 = .ok (.iinc 3 1, 3) := by decide +kernel
theorem dX4_critical_44 : decode cX4_critical 44 = .ok (.goto (-31), 3) := by decide +kernel
theorem dX4_critical_47 : decode cX4_critical 47 = .ok (.bipush (-6), 2) := by decide +kernel
theorem dX4_critical_49 : decode cX4_critical 49 = .ok (.ireturn, 1) := by decide +kernel
theorem dX4_touchiest_0 : decode cX4_touchiest 0 = .ok (.iload_n 1, 1) := by decide +kernel
theorem dX4_touchiest_1 : decode cX4_touchiest 1 = .ok (.iconst 1, 1) := by decide +kernel
theorem dX4_touchiest_2 : decode cX4_touchiest 2 = .ok (.sipush 500, 3) := by decide +kernel
theorem dX4_touchiest_5 : decode cX4_touchiest 5 = .ok (.invokestatic 44, 3) := by decide +kernel
theorem dX4_touchiest_8 : decode cX4_touchiest 8 = .ok (.ifCond .eq 12, 3) := by decide +kernel
theorem dX4_touchiest_11 : decode cX4_touchiest 11 = .ok (.iload_n 2, 1) := by decide +kernel
theorem dX4_touchiest_12 : decode cX4_touchiest 12 = .ok (.iconst 0, 1) := by decide +kernel
theorem dX4_touchiest_13 : decode cX4_touchiest 13 = .ok (.iconst 2, 1) := by decide +kernel
theorem dX4_touchiest_14 : decode cX4_touchiest 14 = .ok (.invokestatic 44, 3) := by decide +kernel
theorem dX4_touchiest_17 : decode cX4_touchiest 17 = .ok (.ifCond .ne 6, 3) := by decide +kernel
theorem dX4_touchiest_20 : decode cX4_touchiest 20 = .ok (.bipush (-2), 2) := by decide +kernel
theorem dX4_touchiest_22 : decode cX4_touchiest 22 = .ok (.ireturn, 1) := by decide +kernel
theorem dX4_touchiest_23 : decode cX4_touchiest 23 = .ok (.bipush (-6), 2) := by decide +kernel
theorem dX4_touchiest_25 : decode cX4_touchiest 25 = .ok (.istore_n 3, 1) := by decide +kernel
theorem dX4_touchiest_26 : decode cX4_touchiest 26 = .ok (.iconst (-1), 1) := by decide +kernel
theorem dX4_touchiest_27 : decode cX4_touchiest 27 = .ok (.istore 4, 2) := by decide +kernel
theorem dX4_touchiest_29 : decode cX4_touchiest 29 = .ok (.iconst 0, 1) := by decide +kernel
theorem dX4_touchiest_30 : decode cX4_touchiest 30 = .ok (.istore 5, 2) := by decide +kernel
theorem dX4_touchiest_32 : decode cX4_touchiest 32 = .ok (.iload 5, 2) := by decide +kernel
theorem dX4_touchiest_34 : decode cX4_touchiest 34 = .ok (.aload_n 0, 1) := by decide +kernel
theorem dX4_touchiest_35 : decode cX4_touchiest 35 = .ok (.getfield 7, 3) := by decide +kernel
theorem dX4_touchiest_38 : decode cX4_touchiest 38 = .ok (.iconst 4, 1) := by decide +kernel
theorem dX4_touchiest_39 : decode cX4_touchiest 39 = .ok (.iaload, 1) := by decide +kernel
theorem dX4_touchiest_40 : decode cX4_touchiest 40 = .ok (.if_icmp .ge 52, 3) := by decide +kernel
theorem dX4_touchiest_43 : decode cX4_touchiest 43 = .ok (.aload_n 0, 1) := by decide +kernel
theorem dX4_touchiest_44 : decode cX4_touchiest 44 = .ok (.iload 5, 2) := by decide +kernel
theorem dX4_touchiest_46 : decode cX4_touchiest 46 = .ok (.iload_n 1, 1) := by decide +kernel
theorem dX4_touchiest_47 : decode cX4_touchiest 47 = .ok (.invokevirtual 140, 3) := by decide +kernel
theorem dX4_touchiest_50 : decode cX4_touchiest 50 = .ok (.aload_n 0, 1) := by decide +kernel
theorem dX4_touchiest_51 : decode cX4_touchiest 51 = .ok (.getfield 125, 3) := by decide +kernel
theorem dX4_touchiest_54 : decode cX4_touchiest 54 = .ok (.iload 4, 2) := by decide +kernel
theorem dX4_touchiest_56 : decode cX4_touchiest 56 = .ok (.if_icmp .le 8, 3) := by decide +kernel
theorem dX4_touchiest_59 : decode cX4_touchiest 59 = .ok (.iload 5, 2) := by decide +kernel
theorem dX4_touchiest_61 : decode cX4_touchiest 61 = .ok (.goto 4, 3) := by decide +kernel
theorem dX4_touchiest_64 : decode cX4_touchiest 64 = .ok (.iload_n 3, 1) := by decide +kernel
theorem dX4_touchiest_65 : decode cX4_touchiest 65 = .ok (.istore_n 3, 1) := by decide +kernel
theorem dX4_touchiest_66 : decode cX4_touchiest 66 = .ok (.aload_n 0, 1) := by decide +kernel
theorem dX4_touchiest_67 : decode cX4_touchiest 67 = .ok (.getfield 125, 3) := by decide +kernel
theorem dX4_touchiest_70 : decode cX4_touchiest 70 = .ok (.iload 4, 2) := by decide +kernel
theorem dX4_touchiest_72 : decode cX4_touchiest 72 = .ok (.if_icmp .le 10, 3) := by decide +kernel
theorem dX4_touchiest_75 : decode cX4_touchiest 75 = .ok (.aload_n 0, 1) := by decide +kernel
theorem dX4_touchiest_76 : decode cX4_touchiest 76 = .ok (.getfield 125, 3) := by decide +kernel
theorem dX4_touchiest_79 : decode cX4_touchiest 79 = .ok (.goto 5, 3) := by decide +kernel
theorem dX4_touchiest_82 : decode cX4_touchiest 82 = .ok (.iload 4, 2) := by decide +kernel
theorem dX4_touchiest_84 : decode cX4_touchiest 84 = .ok (.istore 4, 2) := by decide +kernel
theorem dX4_touchiest_86 : decode cX4_touchiest 86 = .ok (.iinc 5 1, 3) := by decide +kernel
theorem dX4_touchiest_89 : decode cX4_touchiest 89 = .ok (.goto (-57), 3) := by decide +kernel
theorem dX4_touchiest_92 : decode cX4_touchiest 92 = .ok (.iload_n 3, 1) := by decide +kernel
theorem dX4_touchiest_93 : decode cX4_touchiest 93 = .ok (.bipush (-6), 2) := by decide +kernel
theorem dX4_touchiest_95 : decode cX4_touchiest 95 = .ok (.if_icmp .ne 8, 3) := by decide +kernel
theorem dX4_touchiest_98 : decode cX4_touchiest 98 = .ok (.bipush (-6), 2) := by decide +kernel
theorem dX4_touchiest_100 : decode cX4_touchiest 100 = .ok (.goto 36, 3) := by decide +kernel
theorem dX4_touchiest_103 : decode cX4_touchiest 103 = .ok (.iload_n 2, 1) := by decide +kernel
theorem dX4_touchiest_104 : decode cX4_touchiest 104 = .ok (.ifCond .ne 11, 3) := by decide +kernel
theorem dX4_touchiest_107 : decode cX4_touchiest 107 = .ok (.aload_n 0, 1) := by decide +kernel
theorem dX4_touchiest_108 : decode cX4_touchiest 108 = .ok (.iload_n 3, 1) := by decide +kernel
theorem dX4_touchiest_109 : decode cX4_touchiest 109 = .ok (.invokevirtual 56, 3) := by decide +kernel
theorem dX4_touchiest_112 : decode cX4_touchiest 112 = .ok (.goto 24, 3) := by decide +kernel
theorem dX4_touchiest_115 : decode cX4_touchiest 115 = .ok (.iload_n 2, 1) := by decide +kernel
theorem dX4_touchiest_116 : decode cX4_touchiest 116 = .ok (.iconst 1, 1) := by decide +kernel
theorem dX4_touchiest_117 : decode cX4_touchiest 117 = .ok (.if_icmp .ne 17, 3) := by decide +kernel
theorem dX4_touchiest_120 : decode cX4_touchiest 120 = .ok (.iload_n 3, 1) := by decide +kernel
theorem dX4_touchiest_121 : decode cX4_touchiest 121 = .ok (.aload_n 0, 1) := by decide +kernel
theorem dX4_touchiest_122 : decode cX4_touchiest 122 = .ok (.aload_n 0, 1) := by decide +kernel
theorem dX4_touchiest_123 : decode cX4_touchiest 123 = .ok (.iload_n 3, 1) := by decide +kernel
theorem dX4_touchiest_124 : decode cX4_touchiest 124 = .ok (.invokevirtual 56, 3) := by decide +kernel
theorem dX4_touchiest_127 : decode cX4_touchiest 127 = .ok (.invokevirtual 60, 3) := by decide +kernel
theorem dX4_touchiest_130 : decode cX4_touchiest 130 = .ok (.isub, 1) := by decide +kernel
theorem dX4_touchiest_131 : decode cX4_touchiest 131 = .ok (.goto 5, 3) := by decide +kernel
theorem dX4_touchiest_134 : decode cX4_touchiest 134 = .ok (.iload 4, 2) := by decide +kernel
theorem dX4_touchiest_136 : decode cX4_touchiest 136 = .ok (.ireturn, 1) := by decide +kernel
theorem dX4_coolestPair_0 : decode cX4_coolestPair 0 = .ok (.iload_n 1, 1) := by decide +kernel
theorem dX4_coolestPair_1 : decode cX4_coolestPair 1 = .ok (.iconst 0, 1) := by decide +kernel
theorem dX4_coolestPair_2 : decode cX4_coolestPair 2 = .ok (.iconst 1, 1) := by decide +kernel
theorem dX4_coolestPair_3 : decode cX4_coolestPair 3 = .ok (.invokestatic 44, 3) := by decide +kernel
theorem dX4_coolestPair_6 : decode cX4_coolestPair 6 = .ok (.ifCond .ne 6, 3) := by decide +kernel
theorem dX4_coolestPair_9 : decode cX4_coolestPair 9 = .ok (.bipush (-2), 2) := by decide +kernel
theorem dX4_coolestPair_11 : decode cX4_coolestPair 11 = .ok (.ireturn, 1) := by decide +kernel
theorem dX4_coolestPair_12 : decode cX4_coolestPair 12 = .ok (.bipush (-6), 2) := by decide +kernel
theorem dX4_coolestPair_14 : decode cX4_coolestPair 14 = .ok (.istore_n 2, 1) := by decide +kernel
theorem dX4_coolestPair_15 : decode cX4_coolestPair 15 = .ok (.bipush (-6), 2) := by decide +kernel
theorem dX4_coolestPair_17 : decode cX4_coolestPair 17 = .ok (.istore_n 3, 1) := by decide +kernel
theorem dX4_coolestPair_18 : decode cX4_coolestPair 18 = .ok (.iconst 0, 1) := by decide +kernel
theorem dX4_coolestPair_19 : decode cX4_coolestPair 19 = .ok (.istore 4, 2) := by decide +kernel
theorem dX4_coolestPair_21 : decode cX4_coolestPair 21 = .ok (.iconst 0, 1) := by decide +kernel
theorem dX4_coolestPair_22 : decode cX4_coolestPair 22 = .ok (.istore 5, 2) := by decide +kernel
theorem dX4_coolestPair_24 : decode cX4_coolestPair 24 = .ok (.iload 5, 2) := by decide +kernel
theorem dX4_coolestPair_26 : decode cX4_coolestPair 26 = .ok (.aload_n 0, 1) := by decide +kernel
theorem dX4_coolestPair_27 : decode cX4_coolestPair 27 = .ok (.getfield 7, 3) := by decide +kernel
theorem dX4_coolestPair_30 : decode cX4_coolestPair 30 = .ok (.iconst 3, 1) := by decide +kernel
theorem dX4_coolestPair_31 : decode cX4_coolestPair 31 = .ok (.iaload, 1) := by decide +kernel
theorem dX4_coolestPair_32 : decode cX4_coolestPair 32 = .ok (.if_icmp .ge 120, 3) := by decide +kernel
theorem dX4_coolestPair_35 : decode cX4_coolestPair 35 = .ok (.iload 5, 2) := by decide +kernel
theorem dX4_coolestPair_37 : decode cX4_coolestPair 37 = .ok (.iconst 1, 1) := by decide +kernel
theorem dX4_coolestPair_38 : decode cX4_coolestPair 38 = .ok (.iadd, 1) := by decide +kernel
theorem dX4_coolestPair_39 : decode cX4_coolestPair 39 = .ok (.istore 6, 2) := by decide +kernel
theorem dX4_coolestPair_41 : decode cX4_coolestPair 41 = .ok (.iload 6, 2) := by decide +kernel
theorem dX4_coolestPair_43 : decode cX4_coolestPair 43 = .ok (.aload_n 0, 1) := by decide +kernel
theorem dX4_coolestPair_44 : decode cX4_coolestPair 44 = .ok (.getfield 7, 3) := by decide +kernel
theorem dX4_coolestPair_47 : decode cX4_coolestPair 47 = .ok (.iconst 3, 1) := by decide +kernel
theorem dX4_coolestPair_48 : decode cX4_coolestPair 48 = .ok (.iaload, 1) := by decide +kernel
theorem dX4_coolestPair_49 : decode cX4_coolestPair 49 = .ok (.if_icmp .ge 97, 3) := by decide +kernel
theorem dX4_coolestPair_52 : decode cX4_coolestPair 52 = .ok (.aload_n 0, 1) := by decide +kernel
theorem dX4_coolestPair_53 : decode cX4_coolestPair 53 = .ok (.iload 5, 2) := by decide +kernel
theorem dX4_coolestPair_55 : decode cX4_coolestPair 55 = .ok (.invokevirtual 101, 3) := by decide +kernel
theorem dX4_coolestPair_58 : decode cX4_coolestPair 58 = .ok (.aload_n 0, 1) := by decide +kernel
theorem dX4_coolestPair_59 : decode cX4_coolestPair 59 = .ok (.iload 6, 2) := by decide +kernel
theorem dX4_coolestPair_61 : decode cX4_coolestPair 61 = .ok (.invokevirtual 101, 3) := by decide +kernel
theorem dX4_coolestPair_64 : decode cX4_coolestPair 64 = .ok (.iadd, 1) := by decide +kernel
theorem dX4_coolestPair_65 : decode cX4_coolestPair 65 = .ok (.istore 7, 2) := by decide +kernel
theorem dX4_coolestPair_67 : decode cX4_coolestPair 67 = .ok (.aload_n 0, 1) := by decide +kernel
theorem dX4_coolestPair_68 : decode cX4_coolestPair 68 = .ok (.iload 5, 2) := by decide +kernel
theorem dX4_coolestPair_70 : decode cX4_coolestPair 70 = .ok (.invokevirtual 89, 3) := by decide +kernel
theorem dX4_coolestPair_73 : decode cX4_coolestPair 73 = .ok (.aload_n 0, 1) := by decide +kernel
theorem dX4_coolestPair_74 : decode cX4_coolestPair 74 = .ok (.iload 6, 2) := by decide +kernel
theorem dX4_coolestPair_76 : decode cX4_coolestPair 76 = .ok (.invokevirtual 89, 3) := by decide +kernel
theorem dX4_coolestPair_79 : decode cX4_coolestPair 79 = .ok (.if_icmp .ne 20, 3) := by decide +kernel
theorem dX4_coolestPair_82 : decode cX4_coolestPair 82 = .ok (.iload_n 2, 1) := by decide +kernel
theorem dX4_coolestPair_83 : decode cX4_coolestPair 83 = .ok (.bipush (-6), 2) := by decide +kernel
theorem dX4_coolestPair_85 : decode cX4_coolestPair 85 = .ok (.if_icmp .eq 10, 3) := by decide +kernel
theorem dX4_coolestPair_88 : decode cX4_coolestPair 88 = .ok (.iload 7, 2) := by decide +kernel
theorem dX4_coolestPair_90 : decode cX4_coolestPair 90 = .ok (.iload 4, 2) := by decide +kernel
theorem dX4_coolestPair_92 : decode cX4_coolestPair 92 = .ok (.if_icmp .ge 7, 3) := by decide +kernel
theorem dX4_coolestPair_95 : decode cX4_coolestPair 95 = .ok (.iconst 1, 1) := by decide +kernel
theorem dX4_coolestPair_96 : decode cX4_coolestPair 96 = .ok (.goto 4, 3) := by decide +kernel
theorem dX4_coolestPair_99 : decode cX4_coolestPair 99 = .ok (.iconst 0, 1) := by decide +kernel
theorem dX4_coolestPair_100 : decode cX4_coolestPair 100 = .ok (.istore 8, 2) := by decide +kernel
theorem dX4_coolestPair_102 : decode cX4_coolestPair 102 = .ok (.iload 8, 2) := by decide +kernel
theorem dX4_coolestPair_104 : decode cX4_coolestPair 104 = .ok (.ifCond .eq 8, 3) := by decide +kernel
theorem dX4_coolestPair_107 : decode cX4_coolestPair 107 = .ok (.iload 5, 2) := by decide +kernel
theorem dX4_coolestPair_109 : decode cX4_coolestPair 109 = .ok (.goto 4, 3) := by decide +kernel
theorem dX4_coolestPair_112 : decode cX4_coolestPair 112 = .ok (.iload_n 2, 1) := by decide +kernel
theorem dX4_coolestPair_113 : decode cX4_coolestPair 113 = .ok (.istore_n 2, 1) := by decide +kernel
theorem dX4_coolestPair_114 : decode cX4_coolestPair 114 = .ok (.iload 8, 2) := by decide +kernel
theorem dX4_coolestPair_116 : decode cX4_coolestPair 116 = .ok (.ifCond .eq 8, 3) := by decide +kernel
theorem dX4_coolestPair_119 : decode cX4_coolestPair 119 = .ok (.iload 6, 2) := by decide +kernel
theorem dX4_coolestPair_121 : decode cX4_coolestPair 121 = .ok (.goto 4, 3) := by decide +kernel
theorem dX4_coolestPair_124 : decode cX4_coolestPair 124 = .ok (.iload_n 3, 1) := by decide +kernel
theorem dX4_coolestPair_125 : decode cX4_coolestPair 125 = .ok (.istore_n 3, 1) := by decide +kernel
theorem dX4_coolestPair_126 : decode cX4_coolestPair 126 = .ok (.iload 8, 2) := by decide +kernel
theorem dX4_coolestPair_128 : decode cX4_coolestPair 128 = .ok (.ifCond .eq 8, 3) := by decide +kernel
theorem dX4_coolestPair_131 : decode cX4_coolestPair 131 = .ok (.iload 7, 2) := by decide +kernel
theorem dX4_coolestPair_133 : decode cX4_coolestPair 133 = .ok (.goto 5, 3) := by decide +kernel
theorem dX4_coolestPair_136 : decode cX4_coolestPair 136 = .ok (.iload 4, 2) := by decide +kernel
theorem dX4_coolestPair_138 : decode cX4_coolestPair 138 = .ok (.istore 4, 2) := by decide +kernel
theorem dX4_coolestPair_140 : decode cX4_coolestPair 140 = .ok (.iinc 6 1, 3) := by decide +kernel
theorem dX4_coolestPair_143 : decode cX4_coolestPair 143 = .ok (.goto (-102), 3) := by decide +kernel
theorem dX4_coolestPair_146 : decode cX4_coolestPair 146 = .ok (.iinc 5 1, 3) := by decide +kernel
theorem dX4_coolestPair_149 : decode cX4_coolestPair 149 = .ok (.goto (-125), 3) := by decide +kernel
theorem dX4_coolestPair_152 : decode cX4_coolestPair 152 = .ok (.iload_n 1, 1) := by decide +kernel
theorem dX4_coolestPair_153 : decode cX4_coolestPair 153 = .ok (.ifCond .ne 7, 3) := by decide +kernel
theorem dX4_coolestPair_156 : decode cX4_coolestPair 156 = .ok (.iload_n 2, 1) := by decide +kernel
theorem dX4_coolestPair_157 : decode cX4_coolestPair 157 = .ok (.goto 4, 3) := by decide +kernel
theorem dX4_coolestPair_160 : decode cX4_coolestPair 160 = .ok (.iload_n 3, 1) := by decide +kernel
theorem dX4_coolestPair_161 : decode cX4_coolestPair 161 = .ok (.ireturn, 1) := by decide +kernel
theorem dX4_put_0 : decode cX4_put 0 = .ok (.iconst 0, 1) := by decide +kernel
theorem dX4_put_1 : decode cX4_put 1 = .ok (.istore_n 3, 1) := by decide +kernel
theorem dX4_put_2 : decode cX4_put 2 = .ok (.iconst 0, 1) := by decide +kernel
theorem dX4_put_3 : decode cX4_put 3 = .ok (.istore 4, 2) := by decide +kernel
theorem dX4_put_5 : decode cX4_put 5 = .ok (.iconst 0, 1) := by decide +kernel
theorem dX4_put_6 : decode cX4_put 6 = .ok (.istore 5, 2) := by decide +kernel
theorem dX4_put_8 : decode cX4_put 8 = .ok (.iload 5, 2) := by decide +kernel
theorem dX4_put_10 : decode cX4_put 10 = .ok (.bipush 8, 2) := by decide +kernel
theorem dX4_put_12 : decode cX4_put 12 = .ok (.if_icmp .ge 89, 3) := by decide +kernel
theorem dX4_put_15 : decode cX4_put 15 = .ok (.lload_n 1, 1) := by decide +kernel
theorem dX4_put_16 : decode cX4_put 16 = .ok (.bipush 8, 2) := by decide +kernel
theorem dX4_put_18 : decode cX4_put 18 = .ok (.iload 5, 2) := by decide +kernel
theorem dX4_put_20 : decode cX4_put 20 = .ok (.imul, 1) := by decide +kernel
theorem dX4_put_21 : decode cX4_put 21 = .ok (.lushr, 1) := by decide +kernel
theorem dX4_put_22 : decode cX4_put 22 = .ok (.ldc2_w 143, 3) := by decide +kernel
theorem dX4_put_25 : decode cX4_put 25 = .ok (.land, 1) := by decide +kernel
theorem dX4_put_26 : decode cX4_put 26 = .ok (.l2i, 1) := by decide +kernel
theorem dX4_put_27 : decode cX4_put 27 = .ok (.istore 6, 2) := by decide +kernel
theorem dX4_put_29 : decode cX4_put 29 = .ok (.iload 5, 2) := by decide +kernel
theorem dX4_put_31 : decode cX4_put 31 = .ok (.ifCond .le 19, 3) := by decide +kernel
theorem dX4_put_34 : decode cX4_put 34 = .ok (.lload_n 1, 1) := by decide +kernel
theorem dX4_put_35 : decode cX4_put 35 = .ok (.bipush 8, 2) := by decide +kernel
theorem dX4_put_37 : decode cX4_put 37 = .ok (.iload 5, 2) := by decide +kernel
theorem dX4_put_39 : decode cX4_put 39 = .ok (.imul, 1) := by decide +kernel
theorem dX4_put_40 : decode cX4_put 40 = .ok (.lushr, 1) := by decide +kernel
theorem dX4_put_41 : decode cX4_put 41 = .ok (.lconst 0, 1) := by decide +kernel
theorem dX4_put_42 : decode cX4_put 42 = .ok (.lcmp, 1) := by decide +kernel
theorem dX4_put_43 : decode cX4_put 43 = .ok (.ifCond .ne 7, 3) := by decide +kernel
theorem dX4_put_46 : decode cX4_put 46 = .ok (.iconst 1, 1) := by decide +kernel
theorem dX4_put_47 : decode cX4_put 47 = .ok (.goto 4, 3) := by decide +kernel
theorem dX4_put_50 : decode cX4_put 50 = .ok (.iconst 0, 1) := by decide +kernel
theorem dX4_put_51 : decode cX4_put 51 = .ok (.istore 7, 2) := by decide +kernel
theorem dX4_put_53 : decode cX4_put 53 = .ok (.iload 4, 2) := by decide +kernel
theorem dX4_put_55 : decode cX4_put 55 = .ok (.ifCond .ne 20, 3) := by decide +kernel
theorem dX4_put_58 : decode cX4_put 58 = .ok (.iload 7, 2) := by decide +kernel
theorem dX4_put_60 : decode cX4_put 60 = .ok (.ifCond .ne 19, 3) := by decide +kernel
theorem dX4_put_63 : decode cX4_put 63 = .ok (.iload 6, 2) := by decide +kernel
theorem dX4_put_65 : decode cX4_put 65 = .ok (.bipush 33, 2) := by decide +kernel
theorem dX4_put_67 : decode cX4_put 67 = .ok (.bipush 126, 2) := by decide +kernel
theorem dX4_put_69 : decode cX4_put 69 = .ok (.invokestatic 44, 3) := by decide +kernel
theorem dX4_put_72 : decode cX4_put 72 = .ok (.ifCond .ne 7, 3) := by decide +kernel
theorem dX4_put_75 : decode cX4_put 75 = .ok (.iconst 1, 1) := by decide +kernel
theorem dX4_put_76 : decode cX4_put 76 = .ok (.goto 4, 3) := by decide +kernel
theorem dX4_put_79 : decode cX4_put 79 = .ok (.iconst 0, 1) := by decide +kernel
theorem dX4_put_80 : decode cX4_put 80 = .ok (.istore 4, 2) := by decide +kernel
theorem dX4_put_82 : decode cX4_put 82 = .ok (.iload_n 3, 1) := by decide +kernel
theorem dX4_put_83 : decode cX4_put 83 = .ok (.iload 7, 2) := by decide +kernel
theorem dX4_put_85 : decode cX4_put 85 = .ok (.ifCond .eq 7, 3) := by decide +kernel
theorem dX4_put_88 : decode cX4_put 88 = .ok (.iconst 0, 1) := by decide +kernel
theorem dX4_put_89 : decode cX4_put 89 = .ok (.goto 4, 3) := by decide +kernel
theorem dX4_put_92 : decode cX4_put 92 = .ok (.iconst 1, 1) := by decide +kernel
theorem dX4_put_93 : decode cX4_put 93 = .ok (.iadd, 1) := by decide +kernel
theorem dX4_put_94 : decode cX4_put 94 = .ok (.istore_n 3, 1) := by decide +kernel
theorem dX4_put_95 : decode cX4_put 95 = .ok (.iinc 5 1, 3) := by decide +kernel
theorem dX4_put_98 : decode cX4_put 98 = .ok (.goto (-90), 3) := by decide +kernel
theorem dX4_put_101 : decode cX4_put 101 = .ok (.iload 4, 2) := by decide +kernel
theorem dX4_put_103 : decode cX4_put 103 = .ok (.ifCond .eq 6, 3) := by decide +kernel
theorem dX4_put_106 : decode cX4_put 106 = .ok (.bipush (-2), 2) := by decide +kernel
theorem dX4_put_108 : decode cX4_put 108 = .ok (.ireturn, 1) := by decide +kernel
theorem dX4_put_109 : decode cX4_put 109 = .ok (.aload_n 0, 1) := by decide +kernel
theorem dX4_put_110 : decode cX4_put 110 = .ok (.getfield 119, 3) := by decide +kernel
theorem dX4_put_113 : decode cX4_put 113 = .ok (.iload_n 3, 1) := by decide +kernel
theorem dX4_put_114 : decode cX4_put 114 = .ok (.iadd, 1) := by decide +kernel
theorem dX4_put_115 : decode cX4_put 115 = .ok (.bipush 60, 2) := by decide +kernel
theorem dX4_put_117 : decode cX4_put 117 = .ok (.if_icmp .le 6, 3) := by decide +kernel
theorem dX4_put_120 : decode cX4_put 120 = .ok (.bipush (-4), 2) := by decide +kernel
theorem dX4_put_122 : decode cX4_put 122 = .ok (.ireturn, 1) := by decide +kernel
theorem dX4_put_123 : decode cX4_put 123 = .ok (.iconst 0, 1) := by decide +kernel
theorem dX4_put_124 : decode cX4_put 124 = .ok (.istore 5, 2) := by decide +kernel
theorem dX4_put_126 : decode cX4_put 126 = .ok (.iload 5, 2) := by decide +kernel
theorem dX4_put_128 : decode cX4_put 128 = .ok (.iload_n 3, 1) := by decide +kernel
theorem dX4_put_129 : decode cX4_put 129 = .ok (.if_icmp .ge 37, 3) := by decide +kernel
theorem dX4_put_132 : decode cX4_put 132 = .ok (.aload_n 0, 1) := by decide +kernel
theorem dX4_put_133 : decode cX4_put 133 = .ok (.getfield 26, 3) := by decide +kernel
theorem dX4_put_136 : decode cX4_put 136 = .ok (.aload_n 0, 1) := by decide +kernel
theorem dX4_put_137 : decode cX4_put 137 = .ok (.getfield 119, 3) := by decide +kernel
theorem dX4_put_140 : decode cX4_put 140 = .ok (.iload_n 3, 1) := by decide +kernel
theorem dX4_put_141 : decode cX4_put 141 = .ok (.iadd, 1) := by decide +kernel
theorem dX4_put_142 : decode cX4_put 142 = .ok (.iconst 1, 1) := by decide +kernel
theorem dX4_put_143 : decode cX4_put 143 = .ok (.isub, 1) := by decide +kernel
theorem dX4_put_144 : decode cX4_put 144 = .ok (.iload 5, 2) := by decide +kernel
theorem dX4_put_146 : decode cX4_put 146 = .ok (.isub, 1) := by decide +kernel
theorem dX4_put_147 : decode cX4_put 147 = .ok (.lload_n 1, 1) := by decide +kernel
theorem dX4_put_148 : decode cX4_put 148 = .ok (.bipush 8, 2) := by decide +kernel
theorem dX4_put_150 : decode cX4_put 150 = .ok (.iload 5, 2) := by decide +kernel
theorem dX4_put_152 : decode cX4_put 152 = .ok (.imul, 1) := by decide +kernel
theorem dX4_put_153 : decode cX4_put 153 = .ok (.lushr, 1) := by decide +kernel
theorem dX4_put_154 : decode cX4_put 154 = .ok (.ldc2_w 143, 3) := by decide +kernel
theorem dX4_put_157 : decode cX4_put 157 = .ok (.land, 1) := by decide +kernel
theorem dX4_put_158 : decode cX4_put 158 = .ok (.l2i, 1) := by decide +kernel
theorem dX4_put_159 : decode cX4_put 159 = .ok (.iastore, 1) := by decide +kernel
theorem dX4_put_160 : decode cX4_put 160 = .ok (.iinc 5 1, 3) := by decide +kernel
theorem dX4_put_163 : decode cX4_put 163 = .ok (.goto (-37), 3) := by decide +kernel
theorem dX4_put_166 : decode cX4_put 166 = .ok (.aload_n 0, 1) := by decide +kernel
theorem dX4_put_167 : decode cX4_put 167 = .ok (.dup, 1) := by decide +kernel
theorem dX4_put_168 : decode cX4_put 168 = .ok (.getfield 119, 3) := by decide +kernel
theorem dX4_put_171 : decode cX4_put 171 = .ok (.iload_n 3, 1) := by decide +kernel
theorem dX4_put_172 : decode cX4_put 172 = .ok (.iadd, 1) := by decide +kernel
theorem dX4_put_173 : decode cX4_put 173 = .ok (.putfield 119, 3) := by decide +kernel
theorem dX4_put_176 : decode cX4_put 176 = .ok (.aload_n 0, 1) := by decide +kernel
theorem dX4_put_177 : decode cX4_put 177 = .ok (.getfield 119, 3) := by decide +kernel
theorem dX4_put_180 : decode cX4_put 180 = .ok (.ireturn, 1) := by decide +kernel
theorem dX4_wipe_0 : decode cX4_wipe 0 = .ok (.aload_n 0, 1) := by decide +kernel
theorem dX4_wipe_1 : decode cX4_wipe 1 = .ok (.getfield 119, 3) := by decide +kernel
theorem dX4_wipe_4 : decode cX4_wipe 4 = .ok (.istore_n 1, 1) := by decide +kernel
theorem dX4_wipe_5 : decode cX4_wipe 5 = .ok (.aload_n 0, 1) := by decide +kernel
theorem dX4_wipe_6 : decode cX4_wipe 6 = .ok (.iconst 0, 1) := by decide +kernel
theorem dX4_wipe_7 : decode cX4_wipe 7 = .ok (.putfield 119, 3) := by decide +kernel
theorem dX4_wipe_10 : decode cX4_wipe 10 = .ok (.iload_n 1, 1) := by decide +kernel
theorem dX4_wipe_11 : decode cX4_wipe 11 = .ok (.ireturn, 1) := by decide +kernel
theorem dX4_sign_0 : decode cX4_sign 0 = .ok (.aload_n 0, 1) := by decide +kernel
theorem dX4_sign_1 : decode cX4_sign 1 = .ok (.getfield 145, 3) := by decide +kernel
theorem dX4_sign_4 : decode cX4_sign 4 = .ok (.aload_n 0, 1) := by decide +kernel
theorem dX4_sign_5 : decode cX4_sign 5 = .ok (.getfield 119, 3) := by decide +kernel
theorem dX4_sign_8 : decode cX4_sign 8 = .ok (.if_icmp .ge 15, 3) := by decide +kernel
theorem dX4_sign_11 : decode cX4_sign 11 = .ok (.aload_n 0, 1) := by decide +kernel
theorem dX4_sign_12 : decode cX4_sign 12 = .ok (.getfield 26, 3) := by decide +kernel
theorem dX4_sign_15 : decode cX4_sign 15 = .ok (.aload_n 0, 1) := by decide +kernel
theorem dX4_sign_16 : decode cX4_sign 16 = .ok (.getfield 145, 3) := by decide +kernel
theorem dX4_sign_19 : decode cX4_sign 19 = .ok (.iaload, 1) := by decide +kernel
theorem dX4_sign_20 : decode cX4_sign 20 = .ok (.goto 4, 3) := by decide +kernel
theorem dX4_sign_23 : decode cX4_sign 23 = .ok (.iconst 0, 1) := by decide +kernel
theorem dX4_sign_24 : decode cX4_sign 24 = .ok (.istore_n 3, 1) := by decide +kernel
theorem dX4_sign_25 : decode cX4_sign 25 = .ok (.aload_n 0, 1) := by decide +kernel
theorem dX4_sign_26 : decode cX4_sign 26 = .ok (.aload_n 0, 1) := by decide +kernel
theorem dX4_sign_27 : decode cX4_sign 27 = .ok (.getfield 148, 3) := by decide +kernel
theorem dX4_sign_30 : decode cX4_sign 30 = .ok (.ifCond .ne 12, 3) := by decide +kernel
theorem dX4_sign_33 : decode cX4_sign 33 = .ok (.iload_n 3, 1) := by decide +kernel
theorem dX4_sign_34 : decode cX4_sign 34 = .ok (.iload_n 1, 1) := by decide +kernel
theorem dX4_sign_35 : decode cX4_sign 35 = .ok (.iload_n 2, 1) := by decide +kernel
theorem dX4_sign_36 : decode cX4_sign 36 = .ok (.invokestatic 44, 3) := by decide +kernel
theorem dX4_sign_39 : decode cX4_sign 39 = .ok (.ifCond .ne 7, 3) := by decide +kernel
theorem dX4_sign_42 : decode cX4_sign 42 = .ok (.iconst 1, 1) := by decide +kernel
theorem dX4_sign_43 : decode cX4_sign 43 = .ok (.goto 4, 3) := by decide +kernel
theorem dX4_sign_46 : decode cX4_sign 46 = .ok (.iconst 0, 1) := by decide +kernel
theorem dX4_sign_47 : decode cX4_sign 47 = .ok (.putfield 148, 3) := by decide +kernel
theorem dX4_sign_50 : decode cX4_sign 50 = .ok (.aload_n 0, 1) := by decide +kernel
theorem dX4_sign_51 : decode cX4_sign 51 = .ok (.dup, 1) := by decide +kernel
theorem dX4_sign_52 : decode cX4_sign 52 = .ok (.getfield 145, 3) := by decide +kernel
theorem dX4_sign_55 : decode cX4_sign 55 = .ok (.aload_n 0, 1) := by decide +kernel
theorem dX4_sign_56 : decode cX4_sign 56 = .ok (.getfield 148, 3) := by decide +kernel
theorem dX4_sign_59 : decode cX4_sign 59 = .ok (.ifCond .eq 7, 3) := by decide +kernel
theorem dX4_sign_62 : decode cX4_sign 62 = .ok (.iconst 0, 1) := by decide +kernel
theorem dX4_sign_63 : decode cX4_sign 63 = .ok (.goto 4, 3) := by decide +kernel
theorem dX4_sign_66 : decode cX4_sign 66 = .ok (.iconst 1, 1) := by decide +kernel
theorem dX4_sign_67 : decode cX4_sign 67 = .ok (.iadd, 1) := by decide +kernel
theorem dX4_sign_68 : decode cX4_sign 68 = .ok (.putfield 145, 3) := by decide +kernel
theorem dX4_sign_71 : decode cX4_sign 71 = .ok (.iload_n 3, 1) := by decide +kernel
theorem dX4_sign_72 : decode cX4_sign 72 = .ok (.ireturn, 1) := by decide +kernel
theorem dX4_isNext_0 : decode cX4_isNext 0 = .ok (.aload_n 0, 1) := by decide +kernel
theorem dX4_isNext_1 : decode cX4_isNext 1 = .ok (.getfield 148, 3) := by decide +kernel
theorem dX4_isNext_4 : decode cX4_isNext 4 = .ok (.ifCond .ne 35, 3) := by decide +kernel
theorem dX4_isNext_7 : decode cX4_isNext 7 = .ok (.aload_n 0, 1) := by decide +kernel
theorem dX4_isNext_8 : decode cX4_isNext 8 = .ok (.getfield 145, 3) := by decide +kernel
theorem dX4_isNext_11 : decode cX4_isNext 11 = .ok (.aload_n 0, 1) := by decide +kernel
theorem dX4_isNext_12 : decode cX4_isNext 12 = .ok (.getfield 119, 3) := by decide +kernel
theorem dX4_isNext_15 : decode cX4_isNext 15 = .ok (.if_icmp .ge 24, 3) := by decide +kernel
theorem dX4_isNext_18 : decode cX4_isNext 18 = .ok (.aload_n 0, 1) := by decide +kernel
theorem dX4_isNext_19 : decode cX4_isNext 19 = .ok (.getfield 26, 3) := by decide +kernel
theorem dX4_isNext_22 : decode cX4_isNext 22 = .ok (.aload_n 0, 1) := by decide +kernel
theorem dX4_isNext_23 : decode cX4_isNext 23 = .ok (.getfield 145, 3) := by decide +kernel
theorem dX4_isNext_26 : decode cX4_isNext 26 = .ok (.iaload, 1) := by decide +kernel
theorem dX4_isNext_27 : decode cX4_isNext 27 = .ok (.iload_n 1, 1) := by decide +kernel
theorem dX4_isNext_28 : decode cX4_isNext 28 = .ok (.iload_n 2, 1) := by decide +kernel
theorem dX4_isNext_29 : decode cX4_isNext 29 = .ok (.invokestatic 44, 3) := by decide +kernel
theorem dX4_isNext_32 : decode cX4_isNext 32 = .ok (.ifCond .eq 7, 3) := by decide +kernel
theorem dX4_isNext_35 : decode cX4_isNext 35 = .ok (.iconst 1, 1) := by decide +kernel
theorem dX4_isNext_36 : decode cX4_isNext 36 = .ok (.goto 4, 3) := by decide +kernel
theorem dX4_isNext_39 : decode cX4_isNext 39 = .ok (.iconst 0, 1) := by decide +kernel
theorem dX4_isNext_40 : decode cX4_isNext 40 = .ok (.ireturn, 1) := by decide +kernel
theorem dX4_readPad_0 : decode cX4_readPad 0 = .ok (.aload_n 0, 1) := by decide +kernel
theorem dX4_readPad_1 : decode cX4_readPad 1 = .ok (.iconst 0, 1) := by decide +kernel
theorem dX4_readPad_2 : decode cX4_readPad 2 = .ok (.putfield 145, 3) := by decide +kernel
theorem dX4_readPad_5 : decode cX4_readPad 5 = .ok (.aload_n 0, 1) := by decide +kernel
theorem dX4_readPad_6 : decode cX4_readPad 6 = .ok (.iconst 0, 1) := by decide +kernel
theorem dX4_readPad_7 : decode cX4_readPad 7 = .ok (.putfield 148, 3) := by decide +kernel
theorem dX4_readPad_10 : decode cX4_readPad 10 = .ok (.aload_n 0, 1) := by decide +kernel
theorem dX4_readPad_11 : decode cX4_readPad 11 = .ok (.iconst 0, 1) := by decide +kernel
theorem dX4_readPad_12 : decode cX4_readPad 12 = .ok (.putfield 152, 3) := by decide +kernel
theorem dX4_readPad_15 : decode cX4_readPad 15 = .ok (.aload_n 0, 1) := by decide +kernel
theorem dX4_readPad_16 : decode cX4_readPad 16 = .ok (.iconst 1, 1) := by decide +kernel
theorem dX4_readPad_17 : decode cX4_readPad 17 = .ok (.putfield 155, 3) := by decide +kernel
theorem dX4_readPad_20 : decode cX4_readPad 20 = .ok (.iconst 1, 1) := by decide +kernel
theorem dX4_readPad_21 : decode cX4_readPad 21 = .ok (.istore_n 1, 1) := by decide +kernel
theorem dX4_readPad_22 : decode cX4_readPad 22 = .ok (.iload_n 1, 1) := by decide +kernel
theorem dX4_readPad_23 : decode cX4_readPad 23 = .ok (.ifCond .eq 186, 3) := by decide +kernel
theorem dX4_readPad_26 : decode cX4_readPad 26 = .ok (.aload_n 0, 1) := by decide +kernel
theorem dX4_readPad_27 : decode cX4_readPad 27 = .ok (.bipush 97, 2) := by decide +kernel
theorem dX4_readPad_29 : decode cX4_readPad 29 = .ok (.bipush 122, 2) := by decide +kernel
theorem dX4_readPad_31 : decode cX4_readPad 31 = .ok (.invokevirtual 158, 3) := by decide +kernel
theorem dX4_readPad_34 : decode cX4_readPad 34 = .ok (.istore_n 2, 1) := by decide +kernel
theorem dX4_readPad_35 : decode cX4_readPad 35 = .ok (.aload_n 0, 1) := by decide +kernel
theorem dX4_readPad_36 : decode cX4_readPad 36 = .ok (.bipush 49, 2) := by decide +kernel
theorem dX4_readPad_38 : decode cX4_readPad 38 = .ok (.bipush 57, 2) := by decide +kernel
theorem dX4_readPad_40 : decode cX4_readPad 40 = .ok (.invokevirtual 161, 3) := by decide +kernel
theorem dX4_readPad_43 : decode cX4_readPad 43 = .ok (.ifCond .eq 17, 3) := by decide +kernel
theorem dX4_readPad_46 : decode cX4_readPad 46 = .ok (.aload_n 0, 1) := by decide +kernel
theorem dX4_readPad_47 : decode cX4_readPad 47 = .ok (.bipush 49, 2) := by decide +kernel
theorem dX4_readPad_49 : decode cX4_readPad 49 = .ok (.bipush 57, 2) := by decide +kernel
theorem dX4_readPad_51 : decode cX4_readPad 51 = .ok (.invokevirtual 158, 3) := by decide +kernel
theorem dX4_readPad_54 : decode cX4_readPad 54 = .ok (.bipush 48, 2) := by decide +kernel
theorem dX4_readPad_56 : decode cX4_readPad 56 = .ok (.isub, 1) := by decide +kernel
theorem dX4_readPad_57 : decode cX4_readPad 57 = .ok (.goto 4, 3) := by decide +kernel
theorem dX4_readPad_60 : decode cX4_readPad 60 = .ok (.iconst 0, 1) := by decide +kernel
theorem dX4_readPad_61 : decode cX4_readPad 61 = .ok (.istore_n 3, 1) := by decide +kernel
theorem dX4_readPad_62 : decode cX4_readPad 62 = .ok (.iload_n 3, 1) := by decide +kernel
theorem dX4_readPad_63 : decode cX4_readPad 63 = .ok (.ifCond .le 33, 3) := by decide +kernel
theorem dX4_readPad_66 : decode cX4_readPad 66 = .ok (.aload_n 0, 1) := by decide +kernel
theorem dX4_readPad_67 : decode cX4_readPad 67 = .ok (.bipush 48, 2) := by decide +kernel
theorem dX4_readPad_69 : decode cX4_readPad 69 = .ok (.bipush 57, 2) := by decide +kernel
theorem dX4_readPad_71 : decode cX4_readPad 71 = .ok (.invokevirtual 161, 3) := by decide +kernel
theorem dX4_readPad_74 : decode cX4_readPad 74 = .ok (.ifCond .eq 22, 3) := by decide +kernel
theorem dX4_readPad_77 : decode cX4_readPad 77 = .ok (.bipush 10, 2) := by decide +kernel
theorem dX4_readPad_79 : decode cX4_readPad 79 = .ok (.iload_n 3, 1) := by decide +kernel
theorem dX4_readPad_80 : decode cX4_readPad 80 = .ok (.imul, 1) := by decide +kernel
theorem dX4_readPad_81 : decode cX4_readPad 81 = .ok (.aload_n 0, 1) := by decide +kernel
theorem dX4_readPad_82 : decode cX4_readPad 82 = .ok (.bipush 48, 2) := by decide +kernel
theorem dX4_readPad_84 : decode cX4_readPad 84 = .ok (.bipush 57, 2) := by decide +kernel
theorem dX4_readPad_86 : decode cX4_readPad 86 = .ok (.invokevirtual 158, 3) := by decide +kernel
theorem dX4_readPad_89 : decode cX4_readPad 89 = .ok (.iadd, 1) := by decide +kernel
theorem dX4_readPad_90 : decode cX4_readPad 90 = .ok (.bipush 48, 2) := by decide +kernel
theorem dX4_readPad_92 : decode cX4_readPad 92 = .ok (.isub, 1) := by decide +kernel
theorem dX4_readPad_93 : decode cX4_readPad 93 = .ok (.goto 4, 3) := by decide +kernel
theorem dX4_readPad_96 : decode cX4_readPad 96 = .ok (.iload_n 3, 1) := by decide +kernel
theorem dX4_readPad_97 : decode cX4_readPad 97 = .ok (.istore_n 3, 1) := by decide +kernel
theorem dX4_readPad_98 : decode cX4_readPad 98 = .ok (.aload_n 0, 1) := by decide +kernel
theorem dX4_readPad_99 : decode cX4_readPad 99 = .ok (.getfield 35, 3) := by decide +kernel
theorem dX4_readPad_102 : decode cX4_readPad 102 = .ok (.aload_n 0, 1) := by decide +kernel
theorem dX4_readPad_103 : decode cX4_readPad 103 = .ok (.getfield 152, 3) := by decide +kernel
theorem dX4_readPad_106 : decode cX4_readPad 106 = .ok (.iload_n 2, 1) := by decide +kernel
theorem dX4_readPad_107 : decode cX4_readPad 107 = .ok (.bipush 97, 2) := by decide +kernel
theorem dX4_readPad_109 : decode cX4_readPad 109 = .ok (.isub, 1) := by decide +kernel
theorem dX4_readPad_110 : decode cX4_readPad 110 = .ok (.iastore, 1) := by decide +kernel
theorem dX4_readPad_111 : decode cX4_readPad 111 = .ok (.aload_n 0, 1) := by decide +kernel
theorem dX4_readPad_112 : decode cX4_readPad 112 = .ok (.getfield 38, 3) := by decide +kernel
theorem dX4_readPad_115 : decode cX4_readPad 115 = .ok (.aload_n 0, 1) := by decide +kernel
theorem dX4_readPad_116 : decode cX4_readPad 116 = .ok (.getfield 152, 3) := by decide +kernel
theorem dX4_readPad_119 : decode cX4_readPad 119 = .ok (.iload_n 3, 1) := by decide +kernel
theorem dX4_readPad_120 : decode cX4_readPad 120 = .ok (.iastore, 1) := by decide +kernel
theorem dX4_readPad_121 : decode cX4_readPad 121 = .ok (.aload_n 0, 1) := by decide +kernel
theorem dX4_readPad_122 : decode cX4_readPad 122 = .ok (.getfield 41, 3) := by decide +kernel
theorem dX4_readPad_125 : decode cX4_readPad 125 = .ok (.aload_n 0, 1) := by decide +kernel
theorem dX4_readPad_126 : decode cX4_readPad 126 = .ok (.getfield 152, 3) := by decide +kernel
theorem dX4_readPad_129 : decode cX4_readPad 129 = .ok (.aload_n 0, 1) := by decide +kernel
theorem dX4_readPad_130 : decode cX4_readPad 130 = .ok (.getfield 155, 3) := by decide +kernel
theorem dX4_readPad_133 : decode cX4_readPad 133 = .ok (.iconst 1, 1) := by decide +kernel
theorem dX4_readPad_134 : decode cX4_readPad 134 = .ok (.isub, 1) := by decide +kernel
theorem dX4_readPad_135 : decode cX4_readPad 135 = .ok (.iastore, 1) := by decide +kernel
theorem dX4_readPad_136 : decode cX4_readPad 136 = .ok (.aload_n 0, 1) := by decide +kernel
theorem dX4_readPad_137 : decode cX4_readPad 137 = .ok (.dup, 1) := by decide +kernel
theorem dX4_readPad_138 : decode cX4_readPad 138 = .ok (.getfield 152, 3) := by decide +kernel
theorem dX4_readPad_141 : decode cX4_readPad 141 = .ok (.iconst 1, 1) := by decide +kernel
theorem dX4_readPad_142 : decode cX4_readPad 142 = .ok (.iadd, 1) := by decide +kernel
theorem dX4_readPad_143 : decode cX4_readPad 143 = .ok (.putfield 152, 3) := by decide +kernel
theorem dX4_readPad_146 : decode cX4_readPad 146 = .ok (.aload_n 0, 1) := by decide +kernel
theorem dX4_readPad_147 : decode cX4_readPad 147 = .ok (.bipush 47, 2) := by decide +kernel
theorem dX4_readPad_149 : decode cX4_readPad 149 = .ok (.bipush 47, 2) := by decide +kernel
theorem dX4_readPad_151 : decode cX4_readPad 151 = .ok (.invokevirtual 161, 3) := by decide +kernel
theorem dX4_readPad_154 : decode cX4_readPad 154 = .ok (.ifCond .eq 28, 3) := by decide +kernel
theorem dX4_readPad_157 : decode cX4_readPad 157 = .ok (.aload_n 0, 1) := by decide +kernel
theorem dX4_readPad_158 : decode cX4_readPad 158 = .ok (.bipush 47, 2) := by decide +kernel
theorem dX4_readPad_160 : decode cX4_readPad 160 = .ok (.bipush 47, 2) := by decide +kernel
theorem dX4_readPad_162 : decode cX4_readPad 162 = .ok (.invokevirtual 158, 3) := by decide +kernel
theorem dX4_readPad_165 : decode cX4_readPad 165 = .ok (.istore 4, 2) := by decide +kernel
theorem dX4_readPad_167 : decode cX4_readPad 167 = .ok (.aload_n 0, 1) := by decide +kernel
theorem dX4_readPad_168 : decode cX4_readPad 168 = .ok (.dup, 1) := by decide +kernel
theorem dX4_readPad_169 : decode cX4_readPad 169 = .ok (.getfield 155, 3) := by decide +kernel
theorem dX4_readPad_172 : decode cX4_readPad 172 = .ok (.iconst 1, 1) := by decide +kernel
theorem dX4_readPad_173 : decode cX4_readPad 173 = .ok (.iadd, 1) := by decide +kernel
theorem dX4_readPad_174 : decode cX4_readPad 174 = .ok (.putfield 155, 3) := by decide +kernel
theorem dX4_readPad_177 : decode cX4_readPad 177 = .ok (.iconst 1, 1) := by decide +kernel
theorem dX4_readPad_178 : decode cX4_readPad 178 = .ok (.istore_n 1, 1) := by decide +kernel
theorem dX4_readPad_179 : decode cX4_readPad 179 = .ok (.goto 27, 3) := by decide +kernel
theorem dX4_readPad_182 : decode cX4_readPad 182 = .ok (.aload_n 0, 1) := by decide +kernel
theorem dX4_readPad_183 : decode cX4_readPad 183 = .ok (.getfield 148, 3) := by decide +kernel
theorem dX4_readPad_186 : decode cX4_readPad 186 = .ok (.ifCond .ne 18, 3) := by decide +kernel
theorem dX4_readPad_189 : decode cX4_readPad 189 = .ok (.aload_n 0, 1) := by decide +kernel
theorem dX4_readPad_190 : decode cX4_readPad 190 = .ok (.getfield 145, 3) := by decide +kernel
theorem dX4_readPad_193 : decode cX4_readPad 193 = .ok (.aload_n 0, 1) := by decide +kernel
theorem dX4_readPad_194 : decode cX4_readPad 194 = .ok (.getfield 119, 3) := by decide +kernel
theorem dX4_readPad_197 : decode cX4_readPad 197 = .ok (.if_icmp .ge 7, 3) := by decide +kernel
theorem dX4_readPad_200 : decode cX4_readPad 200 = .ok (.iconst 1, 1) := by decide +kernel
theorem dX4_readPad_201 : decode cX4_readPad 201 = .ok (.goto 4, 3) := by decide +kernel
theorem dX4_readPad_204 : decode cX4_readPad 204 = .ok (.iconst 0, 1) := by decide +kernel
theorem dX4_readPad_205 : decode cX4_readPad 205 = .ok (.istore_n 1, 1) := by decide +kernel
theorem dX4_readPad_206 : decode cX4_readPad 206 = .ok (.goto (-184), 3) := by decide +kernel
theorem dX4_readPad_209 : decode cX4_readPad 209 = .ok (.return_, 1) := by decide +kernel
theorem dX4_fault_0 : decode cX4_fault 0 = .ok (.aload_n 0, 1) := by decide +kernel
theorem dX4_fault_1 : decode cX4_fault 1 = .ok (.invokevirtual 164, 3) := by decide +kernel
theorem dX4_fault_4 : decode cX4_fault 4 = .ok (.aload_n 0, 1) := by decide +kernel
theorem dX4_fault_5 : decode cX4_fault 5 = .ok (.getfield 148, 3) := by decide +kernel
theorem dX4_fault_8 : decode cX4_fault 8 = .ok (.ifCond .eq 10, 3) := by decide +kernel
theorem dX4_fault_11 : decode cX4_fault 11 = .ok (.aload_n 0, 1) := by decide +kernel
theorem dX4_fault_12 : decode cX4_fault 12 = .ok (.getfield 145, 3) := by decide +kernel
theorem dX4_fault_15 : decode cX4_fault 15 = .ok (.goto 5, 3) := by decide +kernel
theorem dX4_fault_18 : decode cX4_fault 18 = .ok (.bipush (-6), 2) := by decide +kernel
theorem dX4_fault_20 : decode cX4_fault 20 = .ok (.ireturn, 1) := by decide +kernel
theorem ggX4_common_X4_isStory : GoodIn wsX4_common wsX4_isStory := goodIn_r _ [6, 1, 7, 8, 5, 9, 14, 15, 16, 17, 18, 19, 20, 21, 22, 23, 24, 25, 26, 27, 28, 29, 30, 31, 32, 33, 34] rfl (by decide +kernel)
theorem gX4_common_X4_isStory : GoodIn wsX4_common (wsV RX4 48 RX4 yX4_isStory wsX4_isStory) := goodIn_app (goodIn_r _ [2, 3, 4, 5] rfl (by decide +kernel)) ggX4_common_X4_isStory
theorem ggX4_common_X4_first : GoodIn wsX4_common wsX4_first := goodIn_r _ [13, 1, 14, 15, 16, 17, 18, 19, 20, 21, 22, 23, 24, 25, 26, 27, 28, 29, 30, 31, 32, 33, 34] rfl (by decide +kernel)
theorem gX4_common_X4_first : GoodIn wsX4_common (wsV RX4 60 RX4 yX4_first wsX4_first) := goodIn_app (goodIn_r _ [10, 11, 12, 5] rfl (by decide +kernel)) ggX4_common_X4_first
theorem ggX4_tryHeat_X4_putAside : GoodIn wsX4_tryHeat wsX4_putAside := goodIn_r _ [11, 3, 2, 44, 45, 46, 47, 48, 49, 50, 51, 52, 53, 54, 55, 56, 57, 58, 59, 60, 61, 62, 63, 64] rfl (by decide +kernel)
theorem gX4_tryHeat_X4_putAside : GoodIn wsX4_tryHeat (wsV RX4 122 RX4 yX4_putAside wsX4_putAside) := goodIn_app (goodIn_r _ [7, 8, 9, 10] rfl (by decide +kernel)) ggX4_tryHeat_X4_putAside
theorem ggX4_tryHeat_X4_warm : GoodIn wsX4_tryHeat wsX4_warm := goodIn_r _ [15, 2, 44, 45, 46, 47, 48, 49, 50, 51, 52, 53, 54, 55, 56, 57, 58, 59, 60, 61, 62, 63, 64] rfl (by decide +kernel)
theorem gX4_tryHeat_X4_warm : GoodIn wsX4_tryHeat (wsV RX4 67 RX4 yX4_warm wsX4_warm) := goodIn_app (goodIn_r _ [12, 13, 14, 10] rfl (by decide +kernel)) ggX4_tryHeat_X4_warm
theorem ggX4_tryHeat_X4_react : GoodIn wsX4_tryHeat wsX4_react := goodIn_r _ [19, 2, 20, 21, 22, 10, 23, 24, 25, 26, 27, 28, 29, 30, 31, 32, 33, 34, 35, 12, 13, 14, 15, 44, 45, 46, 47, 48, 49, 50, 51, 52, 53, 54, 55, 56, 57, 58, 59, 60, 61, 62, 63, 64] rfl (by decide +kernel)
theorem gX4_tryHeat_X4_react : GoodIn wsX4_tryHeat (wsV RX4 85 RX4 yX4_react wsX4_react) := goodIn_app (goodIn_r _ [16, 17, 18, 10] rfl (by decide +kernel)) ggX4_tryHeat_X4_react
theorem ggX4_tryHeat_X4_allHeat : GoodIn wsX4_tryHeat wsX4_allHeat := goodIn_r _ [39, 2, 44, 45, 46, 47, 48, 49, 50, 51, 52, 53, 54, 55, 56, 57, 58, 59, 60, 61, 62, 63, 64] rfl (by decide +kernel)
theorem gX4_tryHeat_X4_allHeat : GoodIn wsX4_tryHeat (wsV RX4 98 RX4 yX4_allHeat wsX4_allHeat) := goodIn_app (goodIn_r _ [36, 37, 38, 10] rfl (by decide +kernel)) ggX4_tryHeat_X4_allHeat
theorem ggX4_tryHeat_X4_putBack : GoodIn wsX4_tryHeat wsX4_putBack := goodIn_r _ [43, 2, 3, 44, 45, 46, 47, 48, 49, 50, 51, 52, 53, 54, 55, 56, 57, 58, 59, 60, 61, 62, 63, 64] rfl (by decide +kernel)
theorem gX4_tryHeat_X4_putBack : GoodIn wsX4_tryHeat (wsV RX4 137 RX4 yX4_putBack wsX4_putBack) := goodIn_app (goodIn_r _ [40, 41, 42, 10] rfl (by decide +kernel)) ggX4_tryHeat_X4_putBack
theorem ggX4_ifHeated_X4_isWord : GoodIn wsX4_ifHeated wsX4_isWord := goodIn_r _ [9, 10, 11, 12, 13, 8, 14, 15, 16, 17, 59, 60, 61, 62, 63, 64, 65, 66, 67, 68, 69, 70, 71, 72, 73, 74, 75, 76, 77, 78, 79] rfl (by decide +kernel)
theorem gX4_ifHeated_X4_isWord : GoodIn wsX4_ifHeated (wsV RX4 81 RX4 yX4_isWord wsX4_isWord) := goodIn_app (goodIn_r _ [5, 6, 7, 8] rfl (by decide +kernel)) ggX4_ifHeated_X4_isWord
theorem ggX4_ifHeated_X4_in : GoodIn wsX4_ifHeated wsX4_in := goodIn_r _ [17] rfl (by decide +kernel)
theorem gX4_ifHeated_X4_in : GoodIn wsX4_ifHeated (va_wsS RX4 44 yX4_in wsX4_in) := goodIn_app (goodIn_r _ [15, 16, 8] rfl (by decide +kernel)) ggX4_ifHeated_X4_in
theorem ggX4_ifHeated_X4_first : GoodIn wsX4_ifHeated wsX4_first := goodIn_r _ [21, 10, 59, 60, 61, 62, 63, 64, 65, 66, 67, 68, 69, 70, 71, 72, 73, 74, 75, 76, 77, 78, 79] rfl (by decide +kernel)
theorem gX4_ifHeated_X4_first : GoodIn wsX4_ifHeated (wsV RX4 60 RX4 yX4_first wsX4_first) := goodIn_app (goodIn_r _ [18, 19, 20, 8] rfl (by decide +kernel)) ggX4_ifHeated_X4_first
theorem ggX4_ifHeated_X4_tryHeat : GoodIn wsX4_ifHeated wsX4_tryHeat := goodIn_r _ [25, 1, 10, 26, 2, 3, 4, 27, 28, 29, 8, 30, 31, 32, 33, 34, 35, 36, 37, 38, 39, 40, 41, 42, 43, 44, 45, 46, 18, 19, 20, 21, 47, 48, 49, 50, 51, 52, 53, 54, 55, 56, 57, 58, 59, 60, 61, 62, 63, 64, 65, 66, 67, 68, 69, 70, 71, 72, 73, 74, 75, 76, 77, 78, 79] rfl (by decide +kernel)
theorem gX4_ifHeated_X4_tryHeat : GoodIn wsX4_ifHeated (wsV RX4 140 RX4 yX4_tryHeat wsX4_tryHeat) := goodIn_app (goodIn_r _ [22, 23, 24, 8] rfl (by decide +kernel)) ggX4_ifHeated_X4_tryHeat
theorem ggX4_critical_X4_isWord : GoodIn wsX4_critical wsX4_isWord := goodIn_r _ [6, 7, 8, 9, 10, 5, 11, 12, 13, 14, 59, 60, 61, 62, 63, 64, 65, 66, 67, 68, 69, 70, 71, 72, 73, 74, 75, 76, 77, 78, 79] rfl (by decide +kernel)
theorem gX4_critical_X4_isWord : GoodIn wsX4_critical (wsV RX4 81 RX4 yX4_isWord wsX4_isWord) := goodIn_app (goodIn_r _ [2, 3, 4, 5] rfl (by decide +kernel)) ggX4_critical_X4_isWord
theorem ggX4_critical_X4_first : GoodIn wsX4_critical wsX4_first := goodIn_r _ [18, 7, 59, 60, 61, 62, 63, 64, 65, 66, 67, 68, 69, 70, 71, 72, 73, 74, 75, 76, 77, 78, 79] rfl (by decide +kernel)
theorem gX4_critical_X4_first : GoodIn wsX4_critical (wsV RX4 60 RX4 yX4_first wsX4_first) := goodIn_app (goodIn_r _ [15, 16, 17, 5] rfl (by decide +kernel)) ggX4_critical_X4_first
theorem ggX4_critical_X4_tryHeat : GoodIn wsX4_critical wsX4_tryHeat := goodIn_r _ [22, 23, 7, 24, 1, 25, 26, 27, 28, 29, 5, 30, 31, 32, 33, 34, 35, 36, 37, 38, 39, 40, 41, 42, 43, 44, 45, 46, 15, 16, 17, 18, 47, 48, 49, 50, 51, 52, 53, 54, 55, 56, 57, 58, 59, 60, 61, 62, 63, 64, 65, 66, 67, 68, 69, 70, 71, 72, 73, 74, 75, 76, 77, 78, 79] rfl (by decide +kernel)
theorem gX4_critical_X4_tryHeat : GoodIn wsX4_critical (wsV RX4 140 RX4 yX4_tryHeat wsX4_tryHeat) := goodIn_app (goodIn_r _ [19, 20, 21, 5] rfl (by decide +kernel)) ggX4_critical_X4_tryHeat
theorem ggX4_touchiest_X4_in : GoodIn wsX4_touchiest wsX4_in := goodIn_r _ [6] rfl (by decide +kernel)
theorem gX4_touchiest_X4_in : GoodIn wsX4_touchiest (va_wsS RX4 44 yX4_in wsX4_in) := goodIn_app (goodIn_r _ [3, 4, 5] rfl (by decide +kernel)) ggX4_touchiest_X4_in
theorem ggX4_touchiest_X4_tryHeat : GoodIn wsX4_touchiest wsX4_tryHeat := goodIn_r _ [10, 2, 1, 11, 12, 13, 14, 15, 16, 17, 5, 18, 19, 20, 21, 22, 23, 24, 25, 26, 27, 28, 29, 30, 31, 32, 33, 34, 35, 36, 37, 38, 39, 40, 41, 42, 43, 44, 45, 46, 47, 48, 49, 50, 51, 52, 53, 54, 55, 56, 57, 58, 59, 60, 61, 62, 63, 64, 65, 66, 67, 68, 69, 70, 71] rfl (by decide +kernel)
theorem gX4_touchiest_X4_tryHeat : GoodIn wsX4_touchiest (wsV RX4 140 RX4 yX4_tryHeat wsX4_tryHeat) := goodIn_app (goodIn_r _ [7, 8, 9, 5] rfl (by decide +kernel)) ggX4_touchiest_X4_tryHeat
theorem ggX4_touchiest_X4_storyOf : GoodIn wsX4_touchiest wsX4_storyOf := goodIn_r _ [34, 1, 51, 52, 53, 54, 55, 56, 57, 58, 59, 60, 61, 62, 63, 64, 65, 66, 67, 68, 69, 70, 71] rfl (by decide +kernel)
theorem gX4_touchiest_X4_storyOf : GoodIn wsX4_touchiest (wsV RX4 56 RX4 yX4_storyOf wsX4_storyOf) := goodIn_app (goodIn_r _ [31, 32, 33, 5] rfl (by decide +kernel)) ggX4_touchiest_X4_storyOf
theorem ggX4_touchiest_X4_first : GoodIn wsX4_touchiest wsX4_first := goodIn_r _ [38, 1, 51, 52, 53, 54, 55, 56, 57, 58, 59, 60, 61, 62, 63, 64, 65, 66, 67, 68, 69, 70, 71] rfl (by decide +kernel)
theorem gX4_touchiest_X4_first : GoodIn wsX4_touchiest (wsV RX4 60 RX4 yX4_first wsX4_first) := goodIn_app (goodIn_r _ [35, 36, 37, 5] rfl (by decide +kernel)) ggX4_touchiest_X4_first
theorem ggX4_coolestPair_X4_in : GoodIn wsX4_coolestPair wsX4_in := goodIn_r _ [5] rfl (by decide +kernel)
theorem gX4_coolestPair_X4_in : GoodIn wsX4_coolestPair (va_wsS RX4 44 yX4_in wsX4_in) := goodIn_app (goodIn_r _ [2, 3, 4] rfl (by decide +kernel)) ggX4_coolestPair_X4_in
theorem ggX4_coolestPair_X4_heatOf : GoodIn wsX4_coolestPair wsX4_heatOf := goodIn_r _ [9, 1, 10, 11, 12, 4, 13, 22, 23, 24, 25, 26, 27, 28, 29, 30, 31, 32, 33, 34, 35, 36, 37, 38, 39, 40, 41, 42] rfl (by decide +kernel)
theorem gX4_coolestPair_X4_heatOf : GoodIn wsX4_coolestPair (wsV RX4 101 RX4 yX4_heatOf wsX4_heatOf) := goodIn_app (goodIn_r _ [6, 7, 8, 4] rfl (by decide +kernel)) ggX4_coolestPair_X4_heatOf
theorem ggX4_coolestPair_X4_theme : GoodIn wsX4_coolestPair wsX4_theme := goodIn_r _ [17, 18, 19, 20, 4, 21, 1, 10, 11, 12, 13, 22, 23, 24, 25, 26, 27, 28, 29, 30, 31, 32, 33, 34, 35, 36, 37, 38, 39, 40, 41, 42] rfl (by decide +kernel)
theorem gX4_coolestPair_X4_theme : GoodIn wsX4_coolestPair (wsV RX4 89 RX4 yX4_theme wsX4_theme) := goodIn_app (goodIn_r _ [14, 15, 16, 4] rfl (by decide +kernel)) ggX4_coolestPair_X4_theme
theorem ggX4_put_X4_in : GoodIn wsX4_put wsX4_in := goodIn_r _ [7] rfl (by decide +kernel)
theorem gX4_put_X4_in : GoodIn wsX4_put (va_wsS RX4 44 yX4_in wsX4_in) := goodIn_app (goodIn_r _ [4, 5, 6] rfl (by decide +kernel)) ggX4_put_X4_in
theorem ggX4_sign_X4_in : GoodIn wsX4_sign wsX4_in := goodIn_r _ [8] rfl (by decide +kernel)
theorem gX4_sign_X4_in : GoodIn wsX4_sign (va_wsS RX4 44 yX4_in wsX4_in) := goodIn_app (goodIn_r _ [5, 6, 7] rfl (by decide +kernel)) ggX4_sign_X4_in
theorem ggX4_isNext_X4_in : GoodIn wsX4_isNext wsX4_in := goodIn_r _ [8] rfl (by decide +kernel)
theorem gX4_isNext_X4_in : GoodIn wsX4_isNext (va_wsS RX4 44 yX4_in wsX4_in) := goodIn_app (goodIn_r _ [5, 6, 7] rfl (by decide +kernel)) ggX4_isNext_X4_in
theorem ggX4_readPad_X4_sign : GoodIn wsX4_readPad wsX4_sign := goodIn_r _ [13, 1, 8, 14, 2, 15, 16, 12, 17, 22, 23, 24, 25, 26, 27, 28, 29, 30, 31, 32, 33, 34, 35, 36, 37, 38, 39, 40, 41, 42] rfl (by decide +kernel)
theorem gX4_readPad_X4_sign : GoodIn wsX4_readPad (wsV RX4 158 RX4 yX4_sign wsX4_sign) := goodIn_app (goodIn_r _ [9, 10, 11, 12] rfl (by decide +kernel)) ggX4_readPad_X4_sign
theorem ggX4_readPad_X4_isNext : GoodIn wsX4_readPad wsX4_isNext := goodIn_r _ [21, 2, 1, 8, 14, 15, 16, 12, 17, 22, 23, 24, 25, 26, 27, 28, 29, 30, 31, 32, 33, 34, 35, 36, 37, 38, 39, 40, 41, 42] rfl (by decide +kernel)
theorem gX4_readPad_X4_isNext : GoodIn wsX4_readPad (wsV RX4 161 RX4 yX4_isNext wsX4_isNext) := goodIn_app (goodIn_r _ [18, 19, 20, 12] rfl (by decide +kernel)) ggX4_readPad_X4_isNext
theorem ggX4_fault_X4_readPad : GoodIn wsX4_fault wsX4_readPad := goodIn_r _ [7, 2, 1, 8, 9, 10, 11, 12, 13, 14, 15, 16, 6, 17, 18, 19, 20, 21, 22, 23, 24, 25, 26, 27, 28, 29, 30, 31, 32, 33, 34, 35, 36, 37, 38, 39, 40, 41, 42, 43, 44, 45, 46] rfl (by decide +kernel)
theorem gX4_fault_X4_readPad : GoodIn wsX4_fault (wsV RX4 164 RX4 yX4_readPad wsX4_readPad) := goodIn_app (goodIn_r _ [3, 4, 5, 6] rfl (by decide +kernel)) ggX4_fault_X4_readPad
