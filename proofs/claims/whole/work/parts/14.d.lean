theorem dX3_read_0 : decode cX3_read 0 = .ok (.aload_n 0, 1) := by decide +kernel
theorem dX3_read_1 : decode cX3_read 1 = .ok (.getfield 10, 3) := by decide +kernel
theorem dX3_read_4 : decode cX3_read 4 = .ok (.iload_n 1, 1) := by decide +kernel
theorem dX3_read_5 : decode cX3_read 5 = .ok (.invokevirtual 105, 3) := by decide +kernel
theorem dX3_read_8 : decode cX3_read 8 = .ok (.ifCond .ne 5, 3) := by decide +kernel
theorem dX3_read_11 : decode cX3_read 11 = .ok (.iconst (-1), 1) := by decide +kernel
theorem dX3_read_12 : decode cX3_read 12 = .ok (.ireturn, 1) := by decide +kernel
theorem dX3_read_13 : decode cX3_read 13 = .ok (.iload_n 2, 1) := by decide +kernel
theorem dX3_read_14 : decode cX3_read 14 = .ok (.iconst 1, 1) := by decide +kernel
theorem dX3_read_15 : decode cX3_read 15 = .ok (.bipush 50, 2) := by decide +kernel
theorem dX3_read_17 : decode cX3_read 17 = .ok (.invokestatic 51, 3) := by decide +kernel
theorem dX3_read_20 : decode cX3_read 20 = .ok (.ifCond .ne 6, 3) := by decide +kernel
theorem dX3_read_23 : decode cX3_read 23 = .ok (.bipush (-2), 2) := by decide +kernel
theorem dX3_read_25 : decode cX3_read 25 = .ok (.ireturn, 1) := by decide +kernel
theorem dX3_read_26 : decode cX3_read 26 = .ok (.aload_n 0, 1) := by decide +kernel
theorem dX3_read_27 : decode cX3_read 27 = .ok (.getfield 22, 3) := by decide +kernel
theorem dX3_read_30 : decode cX3_read 30 = .ok (.aload_n 0, 1) := by decide +kernel
theorem dX3_read_31 : decode cX3_read 31 = .ok (.getfield 10, 3) := by decide +kernel
theorem dX3_read_34 : decode cX3_read 34 = .ok (.invokevirtual 61, 3) := by decide +kernel
theorem dX3_read_37 : decode cX3_read 37 = .ok (.aload_n 0, 1) := by decide +kernel
theorem dX3_read_38 : decode cX3_read 38 = .ok (.getfield 10, 3) := by decide +kernel
theorem dX3_read_41 : decode cX3_read 41 = .ok (.getfield 98, 3) := by decide +kernel
theorem dX3_read_44 : decode cX3_read 44 = .ok (.iload_n 1, 1) := by decide +kernel
theorem dX3_read_45 : decode cX3_read 45 = .ok (.iaload, 1) := by decide +kernel
theorem dX3_read_46 : decode cX3_read 46 = .ok (.istore_n 3, 1) := by decide +kernel
theorem dX3_read_47 : decode cX3_read 47 = .ok (.iload_n 3, 1) := by decide +kernel
theorem dX3_read_48 : decode cX3_read 48 = .ok (.aload_n 0, 1) := by decide +kernel
theorem dX3_read_49 : decode cX3_read 49 = .ok (.getfield 10, 3) := by decide +kernel
theorem dX3_read_52 : decode cX3_read 52 = .ok (.getfield 98, 3) := by decide +kernel
theorem dX3_read_55 : decode cX3_read 55 = .ok (.iload_n 1, 1) := by decide +kernel
theorem dX3_read_56 : decode cX3_read 56 = .ok (.iconst 1, 1) := by decide +kernel
theorem dX3_read_57 : decode cX3_read 57 = .ok (.iadd, 1) := by decide +kernel
theorem dX3_read_58 : decode cX3_read 58 = .ok (.iaload, 1) := by decide +kernel
theorem dX3_read_59 : decode cX3_read 59 = .ok (.if_icmp .ge 18, 3) := by decide +kernel
theorem dX3_read_62 : decode cX3_read 62 = .ok (.aload_n 0, 1) := by decide +kernel
theorem dX3_read_63 : decode cX3_read 63 = .ok (.getfield 10, 3) := by decide +kernel
theorem dX3_read_66 : decode cX3_read 66 = .ok (.iload_n 3, 1) := by decide +kernel
theorem dX3_read_67 : decode cX3_read 67 = .ok (.iload_n 2, 1) := by decide +kernel
theorem dX3_read_68 : decode cX3_read 68 = .ok (.invokevirtual 101, 3) := by decide +kernel
theorem dX3_read_71 : decode cX3_read 71 = .ok (.iinc 3 1, 3) := by decide +kernel
theorem dX3_read_74 : decode cX3_read 74 = .ok (.goto (-27), 3) := by decide +kernel
theorem dX3_read_77 : decode cX3_read 77 = .ok (.aload_n 0, 1) := by decide +kernel
theorem dX3_read_78 : decode cX3_read 78 = .ok (.getfield 10, 3) := by decide +kernel
theorem dX3_read_81 : decode cX3_read 81 = .ok (.invokevirtual 91, 3) := by decide +kernel
theorem dX3_read_84 : decode cX3_read 84 = .ok (.ireturn, 1) := by decide +kernel
theorem dX3_fuse_0 : decode cX3_fuse 0 = .ok (.aload_n 0, 1) := by decide +kernel
theorem dX3_fuse_1 : decode cX3_fuse 1 = .ok (.getfield 10, 3) := by decide +kernel
theorem dX3_fuse_4 : decode cX3_fuse 4 = .ok (.iload_n 1, 1) := by decide +kernel
theorem dX3_fuse_5 : decode cX3_fuse 5 = .ok (.invokevirtual 105, 3) := by decide +kernel
theorem dX3_fuse_8 : decode cX3_fuse 8 = .ok (.ifCond .eq 14, 3) := by decide +kernel
theorem dX3_fuse_11 : decode cX3_fuse 11 = .ok (.aload_n 0, 1) := by decide +kernel
theorem dX3_fuse_12 : decode cX3_fuse 12 = .ok (.getfield 10, 3) := by decide +kernel
theorem dX3_fuse_15 : decode cX3_fuse 15 = .ok (.iload_n 2, 1) := by decide +kernel
theorem dX3_fuse_16 : decode cX3_fuse 16 = .ok (.invokevirtual 105, 3) := by decide +kernel
theorem dX3_fuse_19 : decode cX3_fuse 19 = .ok (.ifCond .ne 5, 3) := by decide +kernel
theorem dX3_fuse_22 : decode cX3_fuse 22 = .ok (.iconst (-1), 1) := by decide +kernel
theorem dX3_fuse_23 : decode cX3_fuse 23 = .ok (.ireturn, 1) := by decide +kernel
theorem dX3_fuse_24 : decode cX3_fuse 24 = .ok (.iload_n 1, 1) := by decide +kernel
theorem dX3_fuse_25 : decode cX3_fuse 25 = .ok (.iload_n 2, 1) := by decide +kernel
theorem dX3_fuse_26 : decode cX3_fuse 26 = .ok (.if_icmp .ne 6, 3) := by decide +kernel
theorem dX3_fuse_29 : decode cX3_fuse 29 = .ok (.bipush (-2), 2) := by decide +kernel
theorem dX3_fuse_31 : decode cX3_fuse 31 = .ok (.ireturn, 1) := by decide +kernel
theorem dX3_fuse_32 : decode cX3_fuse 32 = .ok (.aload_n 0, 1) := by decide +kernel
theorem dX3_fuse_33 : decode cX3_fuse 33 = .ok (.getfield 10, 3) := by decide +kernel
theorem dX3_fuse_36 : decode cX3_fuse 36 = .ok (.iload_n 1, 1) := by decide +kernel
theorem dX3_fuse_37 : decode cX3_fuse 37 = .ok (.invokevirtual 109, 3) := by decide +kernel
theorem dX3_fuse_40 : decode cX3_fuse 40 = .ok (.aload_n 0, 1) := by decide +kernel
theorem dX3_fuse_41 : decode cX3_fuse 41 = .ok (.getfield 10, 3) := by decide +kernel
theorem dX3_fuse_44 : decode cX3_fuse 44 = .ok (.iload_n 2, 1) := by decide +kernel
theorem dX3_fuse_45 : decode cX3_fuse 45 = .ok (.invokevirtual 109, 3) := by decide +kernel
theorem dX3_fuse_48 : decode cX3_fuse 48 = .ok (.if_icmp .eq 6, 3) := by decide +kernel
theorem dX3_fuse_51 : decode cX3_fuse 51 = .ok (.bipush (-5), 2) := by decide +kernel
theorem dX3_fuse_53 : decode cX3_fuse 53 = .ok (.ireturn, 1) := by decide +kernel
theorem dX3_fuse_54 : decode cX3_fuse 54 = .ok (.aload_n 0, 1) := by decide +kernel
theorem dX3_fuse_55 : decode cX3_fuse 55 = .ok (.getfield 22, 3) := by decide +kernel
theorem dX3_fuse_58 : decode cX3_fuse 58 = .ok (.aload_n 0, 1) := by decide +kernel
theorem dX3_fuse_59 : decode cX3_fuse 59 = .ok (.getfield 10, 3) := by decide +kernel
theorem dX3_fuse_62 : decode cX3_fuse 62 = .ok (.invokevirtual 61, 3) := by decide +kernel
theorem dX3_fuse_65 : decode cX3_fuse 65 = .ok (.aload_n 0, 1) := by decide +kernel
theorem dX3_fuse_66 : decode cX3_fuse 66 = .ok (.getfield 16, 3) := by decide +kernel
theorem dX3_fuse_69 : decode cX3_fuse 69 = .ok (.aload_n 0, 1) := by decide +kernel
theorem dX3_fuse_70 : decode cX3_fuse 70 = .ok (.getfield 10, 3) := by decide +kernel
theorem dX3_fuse_73 : decode cX3_fuse 73 = .ok (.invokevirtual 113, 3) := by decide +kernel
theorem dX3_fuse_76 : decode cX3_fuse 76 = .ok (.aload_n 0, 1) := by decide +kernel
theorem dX3_fuse_77 : decode cX3_fuse 77 = .ok (.getfield 10, 3) := by decide +kernel
theorem dX3_fuse_80 : decode cX3_fuse 80 = .ok (.iload_n 2, 1) := by decide +kernel
theorem dX3_fuse_81 : decode cX3_fuse 81 = .ok (.invokevirtual 116, 3) := by decide +kernel
theorem dX3_fuse_84 : decode cX3_fuse 84 = .ok (.iload_n 2, 1) := by decide +kernel
theorem dX3_fuse_85 : decode cX3_fuse 85 = .ok (.iload_n 1, 1) := by decide +kernel
theorem dX3_fuse_86 : decode cX3_fuse 86 = .ok (.if_icmp .ge 9, 3) := by decide +kernel
theorem dX3_fuse_89 : decode cX3_fuse 89 = .ok (.iload_n 1, 1) := by decide +kernel
theorem dX3_fuse_90 : decode cX3_fuse 90 = .ok (.iconst 1, 1) := by decide +kernel
theorem dX3_fuse_91 : decode cX3_fuse 91 = .ok (.isub, 1) := by decide +kernel
theorem dX3_fuse_92 : decode cX3_fuse 92 = .ok (.goto 4, 3) := by decide +kernel
theorem dX3_fuse_95 : decode cX3_fuse 95 = .ok (.iload_n 1, 1) := by decide +kernel
theorem dX3_fuse_96 : decode cX3_fuse 96 = .ok (.istore_n 3, 1) := by decide +kernel
theorem dX3_fuse_97 : decode cX3_fuse 97 = .ok (.aload_n 0, 1) := by decide +kernel
theorem dX3_fuse_98 : decode cX3_fuse 98 = .ok (.getfield 10, 3) := by decide +kernel
theorem dX3_fuse_101 : decode cX3_fuse 101 = .ok (.getfield 98, 3) := by decide +kernel
theorem dX3_fuse_104 : decode cX3_fuse 104 = .ok (.iload_n 3, 1) := by decide +kernel
theorem dX3_fuse_105 : decode cX3_fuse 105 = .ok (.iconst 1, 1) := by decide +kernel
theorem dX3_fuse_106 : decode cX3_fuse 106 = .ok (.iadd, 1) := by decide +kernel
theorem dX3_fuse_107 : decode cX3_fuse 107 = .ok (.iaload, 1) := by decide +kernel
theorem dX3_fuse_108 : decode cX3_fuse 108 = .ok (.istore 4, 2) := by decide +kernel
theorem dX3_fuse_110 : decode cX3_fuse 110 = .ok (.aload_n 0, 1) := by decide +kernel
theorem dX3_fuse_111 : decode cX3_fuse 111 = .ok (.getfield 10, 3) := by decide +kernel
theorem dX3_fuse_114 : decode cX3_fuse 114 = .ok (.iload_n 3, 1) := by decide +kernel
theorem dX3_fuse_115 : decode cX3_fuse 115 = .ok (.aload_n 0, 1) := by decide +kernel
theorem dX3_fuse_116 : decode cX3_fuse 116 = .ok (.getfield 16, 3) := by decide +kernel
theorem dX3_fuse_119 : decode cX3_fuse 119 = .ok (.iload_n 2, 1) := by decide +kernel
theorem dX3_fuse_120 : decode cX3_fuse 120 = .ok (.invokevirtual 120, 3) := by decide +kernel
theorem dX3_fuse_123 : decode cX3_fuse 123 = .ok (.aload_n 0, 1) := by decide +kernel
theorem dX3_fuse_124 : decode cX3_fuse 124 = .ok (.getfield 10, 3) := by decide +kernel
theorem dX3_fuse_127 : decode cX3_fuse 127 = .ok (.getfield 124, 3) := by decide +kernel
theorem dX3_fuse_130 : decode cX3_fuse 130 = .ok (.iload_n 3, 1) := by decide +kernel
theorem dX3_fuse_131 : decode cX3_fuse 131 = .ok (.iconst 1, 1) := by decide +kernel
theorem dX3_fuse_132 : decode cX3_fuse 132 = .ok (.aload_n 0, 1) := by decide +kernel
theorem dX3_fuse_133 : decode cX3_fuse 133 = .ok (.getfield 16, 3) := by decide +kernel
theorem dX3_fuse_136 : decode cX3_fuse 136 = .ok (.getfield 124, 3) := by decide +kernel
theorem dX3_fuse_139 : decode cX3_fuse 139 = .ok (.iload_n 1, 1) := by decide +kernel
theorem dX3_fuse_140 : decode cX3_fuse 140 = .ok (.iaload, 1) := by decide +kernel
theorem dX3_fuse_141 : decode cX3_fuse 141 = .ok (.aload_n 0, 1) := by decide +kernel
theorem dX3_fuse_142 : decode cX3_fuse 142 = .ok (.getfield 16, 3) := by decide +kernel
theorem dX3_fuse_145 : decode cX3_fuse 145 = .ok (.getfield 124, 3) := by decide +kernel
theorem dX3_fuse_148 : decode cX3_fuse 148 = .ok (.iload_n 2, 1) := by decide +kernel
theorem dX3_fuse_149 : decode cX3_fuse 149 = .ok (.iaload, 1) := by decide +kernel
theorem dX3_fuse_150 : decode cX3_fuse 150 = .ok (.invokestatic 127, 3) := by decide +kernel
theorem dX3_fuse_153 : decode cX3_fuse 153 = .ok (.iadd, 1) := by decide +kernel
theorem dX3_fuse_154 : decode cX3_fuse 154 = .ok (.iastore, 1) := by decide +kernel
theorem dX3_fuse_155 : decode cX3_fuse 155 = .ok (.aload_n 0, 1) := by decide +kernel
theorem dX3_fuse_156 : decode cX3_fuse 156 = .ok (.getfield 10, 3) := by decide +kernel
theorem dX3_fuse_159 : decode cX3_fuse 159 = .ok (.iload 4, 2) := by decide +kernel
theorem dX3_fuse_161 : decode cX3_fuse 161 = .ok (.iconst 1, 1) := by decide +kernel
theorem dX3_fuse_162 : decode cX3_fuse 162 = .ok (.isub, 1) := by decide +kernel
theorem dX3_fuse_163 : decode cX3_fuse 163 = .ok (.aload_n 0, 1) := by decide +kernel
theorem dX3_fuse_164 : decode cX3_fuse 164 = .ok (.getfield 10, 3) := by decide +kernel
theorem dX3_fuse_167 : decode cX3_fuse 167 = .ok (.getfield 65, 3) := by decide +kernel
theorem dX3_fuse_170 : decode cX3_fuse 170 = .ok (.iconst 1, 1) := by decide +kernel
theorem dX3_fuse_171 : decode cX3_fuse 171 = .ok (.iaload, 1) := by decide +kernel
theorem dX3_fuse_172 : decode cX3_fuse 172 = .ok (.invokevirtual 101, 3) := by decide +kernel
theorem dX3_fuse_175 : decode cX3_fuse 175 = .ok (.aload_n 0, 1) := by decide +kernel
theorem dX3_fuse_176 : decode cX3_fuse 176 = .ok (.getfield 10, 3) := by decide +kernel
theorem dX3_fuse_179 : decode cX3_fuse 179 = .ok (.iload 4, 2) := by decide +kernel
theorem dX3_fuse_181 : decode cX3_fuse 181 = .ok (.aload_n 0, 1) := by decide +kernel
theorem dX3_fuse_182 : decode cX3_fuse 182 = .ok (.getfield 10, 3) := by decide +kernel
theorem dX3_fuse_185 : decode cX3_fuse 185 = .ok (.getfield 65, 3) := by decide +kernel
theorem dX3_fuse_188 : decode cX3_fuse 188 = .ok (.iconst 1, 1) := by decide +kernel
theorem dX3_fuse_189 : decode cX3_fuse 189 = .ok (.iaload, 1) := by decide +kernel
theorem dX3_fuse_190 : decode cX3_fuse 190 = .ok (.invokevirtual 101, 3) := by decide +kernel
theorem dX3_fuse_193 : decode cX3_fuse 193 = .ok (.aload_n 0, 1) := by decide +kernel
theorem dX3_fuse_194 : decode cX3_fuse 194 = .ok (.getfield 10, 3) := by decide +kernel
theorem dX3_fuse_197 : decode cX3_fuse 197 = .ok (.invokevirtual 91, 3) := by decide +kernel
theorem dX3_fuse_200 : decode cX3_fuse 200 = .ok (.ireturn, 1) := by decide +kernel
theorem dX3_pass_0 : decode cX3_pass 0 = .ok (.iload_n 1, 1) := by decide +kernel
theorem dX3_pass_1 : decode cX3_pass 1 = .ok (.iconst 1, 1) := by decide +kernel
theorem dX3_pass_2 : decode cX3_pass 2 = .ok (.bipush 30, 2) := by decide +kernel
theorem dX3_pass_4 : decode cX3_pass 4 = .ok (.invokestatic 51, 3) := by decide +kernel
theorem dX3_pass_7 : decode cX3_pass 7 = .ok (.ifCond .ne 6, 3) := by decide +kernel
theorem dX3_pass_10 : decode cX3_pass 10 = .ok (.bipush (-2), 2) := by decide +kernel
theorem dX3_pass_12 : decode cX3_pass 12 = .ok (.ireturn, 1) := by decide +kernel
theorem dX3_pass_13 : decode cX3_pass 13 = .ok (.aload_n 0, 1) := by decide +kernel
theorem dX3_pass_14 : decode cX3_pass 14 = .ok (.getfield 22, 3) := by decide +kernel
theorem dX3_pass_17 : decode cX3_pass 17 = .ok (.aload_n 0, 1) := by decide +kernel
theorem dX3_pass_18 : decode cX3_pass 18 = .ok (.getfield 10, 3) := by decide +kernel
theorem dX3_pass_21 : decode cX3_pass 21 = .ok (.invokevirtual 61, 3) := by decide +kernel
theorem dX3_pass_24 : decode cX3_pass 24 = .ok (.iload_n 1, 1) := by decide +kernel
theorem dX3_pass_25 : decode cX3_pass 25 = .ok (.aload_n 0, 1) := by decide +kernel
theorem dX3_pass_26 : decode cX3_pass 26 = .ok (.getfield 10, 3) := by decide +kernel
theorem dX3_pass_29 : decode cX3_pass 29 = .ok (.getfield 65, 3) := by decide +kernel
theorem dX3_pass_32 : decode cX3_pass 32 = .ok (.iconst 2, 1) := by decide +kernel
theorem dX3_pass_33 : decode cX3_pass 33 = .ok (.iaload, 1) := by decide +kernel
theorem dX3_pass_34 : decode cX3_pass 34 = .ok (.imul, 1) := by decide +kernel
theorem dX3_pass_35 : decode cX3_pass 35 = .ok (.istore_n 2, 1) := by decide +kernel
theorem dX3_pass_36 : decode cX3_pass 36 = .ok (.iconst 0, 1) := by decide +kernel
theorem dX3_pass_37 : decode cX3_pass 37 = .ok (.istore_n 3, 1) := by decide +kernel
theorem dX3_pass_38 : decode cX3_pass 38 = .ok (.iload_n 3, 1) := by decide +kernel
theorem dX3_pass_39 : decode cX3_pass 39 = .ok (.aload_n 0, 1) := by decide +kernel
theorem dX3_pass_40 : decode cX3_pass 40 = .ok (.getfield 10, 3) := by decide +kernel
theorem dX3_pass_43 : decode cX3_pass 43 = .ok (.invokevirtual 79, 3) := by decide +kernel
theorem dX3_pass_46 : decode cX3_pass 46 = .ok (.if_icmp .ge 33, 3) := by decide +kernel
theorem dX3_pass_49 : decode cX3_pass 49 = .ok (.aload_n 0, 1) := by decide +kernel
theorem dX3_pass_50 : decode cX3_pass 50 = .ok (.getfield 10, 3) := by decide +kernel
theorem dX3_pass_53 : decode cX3_pass 53 = .ok (.getfield 133, 3) := by decide +kernel
theorem dX3_pass_56 : decode cX3_pass 56 = .ok (.iload_n 3, 1) := by decide +kernel
theorem dX3_pass_57 : decode cX3_pass 57 = .ok (.iconst 0, 1) := by decide +kernel
theorem dX3_pass_58 : decode cX3_pass 58 = .ok (.aload_n 0, 1) := by decide +kernel
theorem dX3_pass_59 : decode cX3_pass 59 = .ok (.getfield 10, 3) := by decide +kernel
theorem dX3_pass_62 : decode cX3_pass 62 = .ok (.getfield 133, 3) := by decide +kernel
theorem dX3_pass_65 : decode cX3_pass 65 = .ok (.iload_n 3, 1) := by decide +kernel
theorem dX3_pass_66 : decode cX3_pass 66 = .ok (.iaload, 1) := by decide +kernel
theorem dX3_pass_67 : decode cX3_pass 67 = .ok (.iload_n 2, 1) := by decide +kernel
theorem dX3_pass_68 : decode cX3_pass 68 = .ok (.isub, 1) := by decide +kernel
theorem dX3_pass_69 : decode cX3_pass 69 = .ok (.invokestatic 127, 3) := by decide +kernel
theorem dX3_pass_72 : decode cX3_pass 72 = .ok (.iastore, 1) := by decide +kernel
theorem dX3_pass_73 : decode cX3_pass 73 = .ok (.iinc 3 1, 3) := by decide +kernel
theorem dX3_pass_76 : decode cX3_pass 76 = .ok (.goto (-38), 3) := by decide +kernel
theorem dX3_pass_79 : decode cX3_pass 79 = .ok (.aload_n 0, 1) := by decide +kernel
theorem dX3_pass_80 : decode cX3_pass 80 = .ok (.getfield 10, 3) := by decide +kernel
theorem dX3_pass_83 : decode cX3_pass 83 = .ok (.invokevirtual 136, 3) := by decide +kernel
theorem dX3_pass_86 : decode cX3_pass 86 = .ok (.ireturn, 1) := by decide +kernel
theorem dX3_burn_0 : decode cX3_burn 0 = .ok (.aload_n 0, 1) := by decide +kernel
theorem dX3_burn_1 : decode cX3_burn 1 = .ok (.getfield 10, 3) := by decide +kernel
theorem dX3_burn_4 : decode cX3_burn 4 = .ok (.iload_n 1, 1) := by decide +kernel
theorem dX3_burn_5 : decode cX3_burn 5 = .ok (.invokevirtual 105, 3) := by decide +kernel
theorem dX3_burn_8 : decode cX3_burn 8 = .ok (.ifCond .ne 5, 3) := by decide +kernel
theorem dX3_burn_11 : decode cX3_burn 11 = .ok (.iconst (-1), 1) := by decide +kernel
theorem dX3_burn_12 : decode cX3_burn 12 = .ok (.ireturn, 1) := by decide +kernel
theorem dX3_burn_13 : decode cX3_burn 13 = .ok (.aload_n 0, 1) := by decide +kernel
theorem dX3_burn_14 : decode cX3_burn 14 = .ok (.getfield 22, 3) := by decide +kernel
theorem dX3_burn_17 : decode cX3_burn 17 = .ok (.aload_n 0, 1) := by decide +kernel
theorem dX3_burn_18 : decode cX3_burn 18 = .ok (.getfield 10, 3) := by decide +kernel
theorem dX3_burn_21 : decode cX3_burn 21 = .ok (.invokevirtual 61, 3) := by decide +kernel
theorem dX3_burn_24 : decode cX3_burn 24 = .ok (.aload_n 0, 1) := by decide +kernel
theorem dX3_burn_25 : decode cX3_burn 25 = .ok (.getfield 10, 3) := by decide +kernel
theorem dX3_burn_28 : decode cX3_burn 28 = .ok (.iload_n 1, 1) := by decide +kernel
theorem dX3_burn_29 : decode cX3_burn 29 = .ok (.invokevirtual 139, 3) := by decide +kernel
theorem dX3_burn_32 : decode cX3_burn 32 = .ok (.istore_n 2, 1) := by decide +kernel
theorem dX3_burn_33 : decode cX3_burn 33 = .ok (.aload_n 0, 1) := by decide +kernel
theorem dX3_burn_34 : decode cX3_burn 34 = .ok (.getfield 10, 3) := by decide +kernel
theorem dX3_burn_37 : decode cX3_burn 37 = .ok (.iload_n 1, 1) := by decide +kernel
theorem dX3_burn_38 : decode cX3_burn 38 = .ok (.invokevirtual 116, 3) := by decide +kernel
theorem dX3_burn_41 : decode cX3_burn 41 = .ok (.iload_n 2, 1) := by decide +kernel
theorem dX3_burn_42 : decode cX3_burn 42 = .ok (.ireturn, 1) := by decide +kernel
theorem dX3_word_0 : decode cX3_word 0 = .ok (.aload_n 0, 1) := by decide +kernel
theorem dX3_word_1 : decode cX3_word 1 = .ok (.getfield 10, 3) := by decide +kernel
theorem dX3_word_4 : decode cX3_word 4 = .ok (.iload_n 1, 1) := by decide +kernel
theorem dX3_word_5 : decode cX3_word 5 = .ok (.iload_n 2, 1) := by decide +kernel
theorem dX3_word_6 : decode cX3_word 6 = .ok (.invokevirtual 94, 3) := by decide +kernel
theorem dX3_word_9 : decode cX3_word 9 = .ok (.ifCond .ne 5, 3) := by decide +kernel
theorem dX3_word_12 : decode cX3_word 12 = .ok (.iconst (-1), 1) := by decide +kernel
theorem dX3_word_13 : decode cX3_word 13 = .ok (.ireturn, 1) := by decide +kernel
theorem dX3_word_14 : decode cX3_word 14 = .ok (.aload_n 0, 1) := by decide +kernel
theorem dX3_word_15 : decode cX3_word 15 = .ok (.getfield 10, 3) := by decide +kernel
theorem dX3_word_18 : decode cX3_word 18 = .ok (.getfield 98, 3) := by decide +kernel
theorem dX3_word_21 : decode cX3_word 21 = .ok (.iload_n 1, 1) := by decide +kernel
theorem dX3_word_22 : decode cX3_word 22 = .ok (.iaload, 1) := by decide +kernel
theorem dX3_word_23 : decode cX3_word 23 = .ok (.iload_n 2, 1) := by decide +kernel
theorem dX3_word_24 : decode cX3_word 24 = .ok (.iadd, 1) := by decide +kernel
theorem dX3_word_25 : decode cX3_word 25 = .ok (.istore 4, 2) := by decide +kernel
theorem dX3_word_27 : decode cX3_word 27 = .ok (.iload_n 3, 1) := by decide +kernel
theorem dX3_word_28 : decode cX3_word 28 = .ok (.tableswitch 69 0 2 #[28, 39, 50], 28) := by decide +kernel
theorem dX3_word_56 : decode cX3_word 56 = .ok (.aload_n 0, 1) := by decide +kernel
theorem dX3_word_57 : decode cX3_word 57 = .ok (.getfield 10, 3) := by decide +kernel
theorem dX3_word_60 : decode cX3_word 60 = .ok (.getfield 142, 3) := by decide +kernel
theorem dX3_word_63 : decode cX3_word 63 = .ok (.iload 4, 2) := by decide +kernel
theorem dX3_word_65 : decode cX3_word 65 = .ok (.iaload, 1) := by decide +kernel
theorem dX3_word_66 : decode cX3_word 66 = .ok (.ireturn, 1) := by decide +kernel
theorem dX3_word_67 : decode cX3_word 67 = .ok (.aload_n 0, 1) := by decide +kernel
theorem dX3_word_68 : decode cX3_word 68 = .ok (.getfield 10, 3) := by decide +kernel
theorem dX3_word_71 : decode cX3_word 71 = .ok (.getfield 133, 3) := by decide +kernel
theorem dX3_word_74 : decode cX3_word 74 = .ok (.iload 4, 2) := by decide +kernel
theorem dX3_word_76 : decode cX3_word 76 = .ok (.iaload, 1) := by decide +kernel
theorem dX3_word_77 : decode cX3_word 77 = .ok (.ireturn, 1) := by decide +kernel
theorem dX3_word_78 : decode cX3_word 78 = .ok (.aload_n 0, 1) := by decide +kernel
theorem dX3_word_79 : decode cX3_word 79 = .ok (.getfield 10, 3) := by decide +kernel
theorem dX3_word_82 : decode cX3_word 82 = .ok (.iload_n 1, 1) := by decide +kernel
theorem dX3_word_83 : decode cX3_word 83 = .ok (.aload_n 0, 1) := by decide +kernel
theorem dX3_word_84 : decode cX3_word 84 = .ok (.getfield 10, 3) := by decide +kernel
theorem dX3_word_87 : decode cX3_word 87 = .ok (.getfield 142, 3) := by decide +kernel
theorem dX3_word_90 : decode cX3_word 90 = .ok (.iload 4, 2) := by decide +kernel
theorem dX3_word_92 : decode cX3_word 92 = .ok (.iaload, 1) := by decide +kernel
theorem dX3_word_93 : decode cX3_word 93 = .ok (.invokevirtual 145, 3) := by decide +kernel
theorem dX3_word_96 : decode cX3_word 96 = .ok (.ireturn, 1) := by decide +kernel
theorem dX3_word_97 : decode cX3_word 97 = .ok (.bipush (-2), 2) := by decide +kernel
theorem dX3_word_99 : decode cX3_word 99 = .ok (.ireturn, 1) := by decide +kernel
theorem dX3_story_0 : decode cX3_story 0 = .ok (.aload_n 0, 1) := by decide +kernel
theorem dX3_story_1 : decode cX3_story 1 = .ok (.getfield 10, 3) := by decide +kernel
theorem dX3_story_4 : decode cX3_story 4 = .ok (.iload_n 1, 1) := by decide +kernel
theorem dX3_story_5 : decode cX3_story 5 = .ok (.invokevirtual 105, 3) := by decide +kernel
theorem dX3_story_8 : decode cX3_story 8 = .ok (.ifCond .ne 5, 3) := by decide +kernel
theorem dX3_story_11 : decode cX3_story 11 = .ok (.iconst (-1), 1) := by decide +kernel
theorem dX3_story_12 : decode cX3_story 12 = .ok (.ireturn, 1) := by decide +kernel
theorem dX3_story_13 : decode cX3_story 13 = .ok (.iload_n 2, 1) := by decide +kernel
theorem dX3_story_14 : decode cX3_story 14 = .ok (.tableswitch 128 0 7 #[46, 55, 64, 73, 83, 93, 102, 111], 46) := by decide +kernel
theorem dX3_story_60 : decode cX3_story 60 = .ok (.aload_n 0, 1) := by decide +kernel
theorem dX3_story_61 : decode cX3_story 61 = .ok (.getfield 10, 3) := by decide +kernel
theorem dX3_story_64 : decode cX3_story 64 = .ok (.iload_n 1, 1) := by decide +kernel
theorem dX3_story_65 : decode cX3_story 65 = .ok (.invokevirtual 139, 3) := by decide +kernel
theorem dX3_story_68 : decode cX3_story 68 = .ok (.ireturn, 1) := by decide +kernel
theorem dX3_story_69 : decode cX3_story 69 = .ok (.aload_n 0, 1) := by decide +kernel
theorem dX3_story_70 : decode cX3_story 70 = .ok (.getfield 10, 3) := by decide +kernel
theorem dX3_story_73 : decode cX3_story 73 = .ok (.iload_n 1, 1) := by decide +kernel
theorem dX3_story_74 : decode cX3_story 74 = .ok (.invokevirtual 148, 3) := by decide +kernel
theorem dX3_story_77 : decode cX3_story 77 = .ok (.ireturn, 1) := by decide +kernel
theorem dX3_story_78 : decode cX3_story 78 = .ok (.aload_n 0, 1) := by decide +kernel
theorem dX3_story_79 : decode cX3_story 79 = .ok (.getfield 10, 3) := by decide +kernel
theorem dX3_story_82 : decode cX3_story 82 = .ok (.iload_n 1, 1) := by decide +kernel
theorem dX3_story_83 : decode cX3_story 83 = .ok (.invokevirtual 109, 3) := by decide +kernel
theorem dX3_story_86 : decode cX3_story 86 = .ok (.ireturn, 1) := by decide +kernel
theorem dX3_story_87 : decode cX3_story 87 = .ok (.aload_n 0, 1) := by decide +kernel
theorem dX3_story_88 : decode cX3_story 88 = .ok (.getfield 10, 3) := by decide +kernel
theorem dX3_story_91 : decode cX3_story 91 = .ok (.getfield 151, 3) := by decide +kernel
theorem dX3_story_94 : decode cX3_story 94 = .ok (.iload_n 1, 1) := by decide +kernel
theorem dX3_story_95 : decode cX3_story 95 = .ok (.iaload, 1) := by decide +kernel
theorem dX3_story_96 : decode cX3_story 96 = .ok (.ireturn, 1) := by decide +kernel
theorem dX3_story_97 : decode cX3_story 97 = .ok (.aload_n 0, 1) := by decide +kernel
theorem dX3_story_98 : decode cX3_story 98 = .ok (.getfield 10, 3) := by decide +kernel
theorem dX3_story_101 : decode cX3_story 101 = .ok (.getfield 124, 3) := by decide +kernel
theorem dX3_story_104 : decode cX3_story 104 = .ok (.iload_n 1, 1) := by decide +kernel
theorem dX3_story_105 : decode cX3_story 105 = .ok (.iaload, 1) := by decide +kernel
theorem dX3_story_106 : decode cX3_story 106 = .ok (.ireturn, 1) := by decide +kernel
theorem dX3_story_107 : decode cX3_story 107 = .ok (.aload_n 0, 1) := by decide +kernel
theorem dX3_story_108 : decode cX3_story 108 = .ok (.getfield 10, 3) := by decide +kernel
theorem dX3_story_111 : decode cX3_story 111 = .ok (.iload_n 1, 1) := by decide +kernel
theorem dX3_story_112 : decode cX3_story 112 = .ok (.invokevirtual 154, 3) := by decide +kernel
theorem dX3_story_115 : decode cX3_story 115 = .ok (.ireturn, 1) := by decide +kernel
theorem dX3_story_116 : decode cX3_story 116 = .ok (.aload_n 0, 1) := by decide +kernel
theorem dX3_story_117 : decode cX3_story 117 = .ok (.getfield 10, 3) := by decide +kernel
theorem dX3_story_120 : decode cX3_story 120 = .ok (.iload_n 1, 1) := by decide +kernel
theorem dX3_story_121 : decode cX3_story 121 = .ok (.invokevirtual 157, 3) := by decide +kernel
theorem dX3_story_124 : decode cX3_story 124 = .ok (.ireturn, 1) := by decide +kernel
theorem dX3_story_125 : decode cX3_story 125 = .ok (.aload_n 0, 1) := by decide +kernel
theorem dX3_story_126 : decode cX3_story 126 = .ok (.getfield 10, 3) := by decide +kernel
theorem dX3_story_129 : decode cX3_story 129 = .ok (.iload_n 1, 1) := by decide +kernel
theorem dX3_story_130 : decode cX3_story 130 = .ok (.invokevirtual 160, 3) := by decide +kernel
theorem dX3_story_133 : decode cX3_story 133 = .ok (.ifCond .eq 7, 3) := by decide +kernel
theorem dX3_story_136 : decode cX3_story 136 = .ok (.iconst 1, 1) := by decide +kernel
theorem dX3_story_137 : decode cX3_story 137 = .ok (.goto 4, 3) := by decide +kernel
theorem dX3_story_140 : decode cX3_story 140 = .ok (.iconst 0, 1) := by decide +kernel
theorem dX3_story_141 : decode cX3_story 141 = .ok (.ireturn, 1) := by decide +kernel
theorem dX3_story_142 : decode cX3_story 142 = .ok (.bipush (-2), 2) := by decide +kernel
theorem dX3_story_144 : decode cX3_story 144 = .ok (.ireturn, 1) := by decide +kernel
theorem dX3_count_0 : decode cX3_count 0 = .ok (.iload_n 1, 1) := by decide +kernel
theorem dX3_count_1 : decode cX3_count 1 = .ok (.tableswitch 177 0 12 #[67, 75, 83, 91, 99, 107, 115, 123, 131, 141, 151, 161, 169], 67) := by decide +kernel
theorem dX3_count_68 : decode cX3_count 68 = .ok (.aload_n 0, 1) := by decide +kernel
theorem dX3_count_69 : decode cX3_count 69 = .ok (.getfield 10, 3) := by decide +kernel
theorem dX3_count_72 : decode cX3_count 72 = .ok (.getfield 72, 3) := by decide +kernel
theorem dX3_count_75 : decode cX3_count 75 = .ok (.ireturn, 1) := by decide +kernel
theorem dX3_count_76 : decode cX3_count 76 = .ok (.aload_n 0, 1) := by decide +kernel
theorem dX3_count_77 : decode cX3_count 77 = .ok (.getfield 10, 3) := by decide +kernel
theorem dX3_count_80 : decode cX3_count 80 = .ok (.invokevirtual 79, 3) := by decide +kernel
theorem dX3_count_83 : decode cX3_count 83 = .ok (.ireturn, 1) := by decide +kernel
theorem dX3_count_84 : decode cX3_count 84 = .ok (.aload_n 0, 1) := by decide +kernel
theorem dX3_count_85 : decode cX3_count 85 = .ok (.getfield 10, 3) := by decide +kernel
theorem dX3_count_88 : decode cX3_count 88 = .ok (.invokevirtual 136, 3) := by decide +kernel
theorem dX3_count_91 : decode cX3_count 91 = .ok (.ireturn, 1) := by decide +kernel
theorem dX3_count_92 : decode cX3_count 92 = .ok (.aload_n 0, 1) := by decide +kernel
theorem dX3_count_93 : decode cX3_count 93 = .ok (.getfield 10, 3) := by decide +kernel
theorem dX3_count_96 : decode cX3_count 96 = .ok (.invokevirtual 163, 3) := by decide +kernel
theorem dX3_count_99 : decode cX3_count 99 = .ok (.ireturn, 1) := by decide +kernel
theorem dX3_count_100 : decode cX3_count 100 = .ok (.aload_n 0, 1) := by decide +kernel
theorem dX3_count_101 : decode cX3_count 101 = .ok (.getfield 10, 3) := by decide +kernel
theorem dX3_count_104 : decode cX3_count 104 = .ok (.getfield 166, 3) := by decide +kernel
theorem dX3_count_107 : decode cX3_count 107 = .ok (.ireturn, 1) := by decide +kernel
theorem dX3_count_108 : decode cX3_count 108 = .ok (.aload_n 0, 1) := by decide +kernel
theorem dX3_count_109 : decode cX3_count 109 = .ok (.getfield 10, 3) := by decide +kernel
theorem dX3_count_112 : decode cX3_count 112 = .ok (.getfield 169, 3) := by decide +kernel
theorem dX3_count_115 : decode cX3_count 115 = .ok (.ireturn, 1) := by decide +kernel
theorem dX3_count_116 : decode cX3_count 116 = .ok (.aload_n 0, 1) := by decide +kernel
theorem dX3_count_117 : decode cX3_count 117 = .ok (.getfield 10, 3) := by decide +kernel
theorem dX3_count_120 : decode cX3_count 120 = .ok (.getfield 172, 3) := by decide +kernel
theorem dX3_count_123 : decode cX3_count 123 = .ok (.ireturn, 1) := by decide +kernel
theorem dX3_count_124 : decode cX3_count 124 = .ok (.aload_n 0, 1) := by decide +kernel
theorem dX3_count_125 : decode cX3_count 125 = .ok (.getfield 10, 3) := by decide +kernel
theorem dX3_count_128 : decode cX3_count 128 = .ok (.invokevirtual 175, 3) := by decide +kernel
theorem dX3_count_131 : decode cX3_count 131 = .ok (.ireturn, 1) := by decide +kernel
theorem dX3_count_132 : decode cX3_count 132 = .ok (.aload_n 0, 1) := by decide +kernel
theorem dX3_count_133 : decode cX3_count 133 = .ok (.getfield 10, 3) := by decide +kernel
theorem dX3_count_136 : decode cX3_count 136 = .ok (.getfield 65, 3) := by decide +kernel
theorem dX3_count_139 : decode cX3_count 139 = .ok (.iconst 0, 1) := by decide +kernel
theorem dX3_count_140 : decode cX3_count 140 = .ok (.iaload, 1) := by decide +kernel
theorem dX3_count_141 : decode cX3_count 141 = .ok (.ireturn, 1) := by decide +kernel
theorem dX3_count_142 : decode cX3_count 142 = .ok (.aload_n 0, 1) := by decide +kernel
theorem dX3_count_143 : decode cX3_count 143 = .ok (.getfield 10, 3) := by decide +kernel
theorem dX3_count_146 : decode cX3_count 146 = .ok (.getfield 65, 3) := by decide +kernel
theorem dX3_count_149 : decode cX3_count 149 = .ok (.iconst 1, 1) := by decide +kernel
theorem dX3_count_150 : decode cX3_count 150 = .ok (.iaload, 1) := by decide +kernel
theorem dX3_count_151 : decode cX3_count 151 = .ok (.ireturn, 1) := by decide +kernel
theorem dX3_count_152 : decode cX3_count 152 = .ok (.aload_n 0, 1) := by decide +kernel
theorem dX3_count_153 : decode cX3_count 153 = .ok (.getfield 10, 3) := by decide +kernel
theorem dX3_count_156 : decode cX3_count 156 = .ok (.getfield 65, 3) := by decide +kernel
theorem dX3_count_159 : decode cX3_count 159 = .ok (.iconst 2, 1) := by decide +kernel
theorem dX3_count_160 : decode cX3_count 160 = .ok (.iaload, 1) := by decide +kernel
theorem dX3_count_161 : decode cX3_count 161 = .ok (.ireturn, 1) := by decide +kernel
theorem dX3_count_162 : decode cX3_count 162 = .ok (.aload_n 0, 1) := by decide +kernel
theorem dX3_count_163 : decode cX3_count 163 = .ok (.getfield 37, 3) := by decide +kernel
theorem dX3_count_166 : decode cX3_count 166 = .ok (.getfield 88, 3) := by decide +kernel
theorem dX3_count_169 : decode cX3_count 169 = .ok (.ireturn, 1) := by decide +kernel
theorem dX3_count_170 : decode cX3_count 170 = .ok (.aload_n 0, 1) := by decide +kernel
theorem dX3_count_171 : decode cX3_count 171 = .ok (.getfield 22, 3) := by decide +kernel
theorem dX3_count_174 : decode cX3_count 174 = .ok (.getfield 178, 3) := by decide +kernel
theorem dX3_count_177 : decode cX3_count 177 = .ok (.ireturn, 1) := by decide +kernel
theorem dX3_count_178 : decode cX3_count 178 = .ok (.bipush (-2), 2) := by decide +kernel
theorem dX3_count_180 : decode cX3_count 180 = .ok (.ireturn, 1) := by decide +kernel
theorem dX3_letter_0 : decode cX3_letter 0 = .ok (.iload_n 1, 1) := by decide +kernel
theorem dX3_letter_1 : decode cX3_letter 1 = .ok (.invokestatic 181, 3) := by decide +kernel
theorem dX3_letter_4 : decode cX3_letter 4 = .ok (.ifCond .ne 6, 3) := by decide +kernel
theorem dX3_letter_7 : decode cX3_letter 7 = .ok (.bipush (-2), 2) := by decide +kernel
theorem dX3_letter_9 : decode cX3_letter 9 = .ok (.ireturn, 1) := by decide +kernel
theorem dX3_letter_10 : decode cX3_letter 10 = .ok (.iload_n 2, 1) := by decide +kernel
theorem dX3_letter_11 : decode cX3_letter 11 = .ok (.tableswitch 65 0 3 #[29, 38, 47, 56], 29) := by decide +kernel
theorem dX3_letter_40 : decode cX3_letter 40 = .ok (.aload_n 0, 1) := by decide +kernel
theorem dX3_letter_41 : decode cX3_letter 41 = .ok (.getfield 10, 3) := by decide +kernel
theorem dX3_letter_44 : decode cX3_letter 44 = .ok (.iload_n 1, 1) := by decide +kernel
theorem dX3_letter_45 : decode cX3_letter 45 = .ok (.invokevirtual 184, 3) := by decide +kernel
theorem dX3_letter_48 : decode cX3_letter 48 = .ok (.ireturn, 1) := by decide +kernel
theorem dX3_letter_49 : decode cX3_letter 49 = .ok (.aload_n 0, 1) := by decide +kernel
theorem dX3_letter_50 : decode cX3_letter 50 = .ok (.getfield 10, 3) := by decide +kernel
theorem dX3_letter_53 : decode cX3_letter 53 = .ok (.iload_n 1, 1) := by decide +kernel
theorem dX3_letter_54 : decode cX3_letter 54 = .ok (.invokevirtual 187, 3) := by decide +kernel
theorem dX3_letter_57 : decode cX3_letter 57 = .ok (.ireturn, 1) := by decide +kernel
theorem dX3_letter_58 : decode cX3_letter 58 = .ok (.aload_n 0, 1) := by decide +kernel
theorem dX3_letter_59 : decode cX3_letter 59 = .ok (.getfield 10, 3) := by decide +kernel
theorem dX3_letter_62 : decode cX3_letter 62 = .ok (.iload_n 1, 1) := by decide +kernel
theorem dX3_letter_63 : decode cX3_letter 63 = .ok (.invokevirtual 190, 3) := by decide +kernel
theorem dX3_letter_66 : decode cX3_letter 66 = .ok (.ireturn, 1) := by decide +kernel
theorem dX3_letter_67 : decode cX3_letter 67 = .ok (.aload_n 0, 1) := by decide +kernel
theorem dX3_letter_68 : decode cX3_letter 68 = .ok (.getfield 10, 3) := by decide +kernel
theorem dX3_letter_71 : decode cX3_letter 71 = .ok (.iload_n 1, 1) := by decide +kernel
theorem dX3_letter_72 : decode cX3_letter 72 = .ok (.invokevirtual 193, 3) := by decide +kernel
theorem dX3_letter_75 : decode cX3_letter 75 = .ok (.ireturn, 1) := by decide +kernel
theorem dX3_letter_76 : decode cX3_letter 76 = .ok (.bipush (-2), 2) := by decide +kernel
theorem dX3_letter_78 : decode cX3_letter 78 = .ok (.ireturn, 1) := by decide +kernel
theorem dX3_sideBySide_0 : decode cX3_sideBySide 0 = .ok (.iload_n 1, 1) := by decide +kernel
theorem dX3_sideBySide_1 : decode cX3_sideBySide 1 = .ok (.invokestatic 181, 3) := by decide +kernel
theorem dX3_sideBySide_4 : decode cX3_sideBySide 4 = .ok (.ifCond .eq 19, 3) := by decide +kernel
theorem dX3_sideBySide_7 : decode cX3_sideBySide 7 = .ok (.iload_n 2, 1) := by decide +kernel
theorem dX3_sideBySide_8 : decode cX3_sideBySide 8 = .ok (.invokestatic 181, 3) := by decide +kernel
theorem dX3_sideBySide_11 : decode cX3_sideBySide 11 = .ok (.ifCond .eq 12, 3) := by decide +kernel
theorem dX3_sideBySide_14 : decode cX3_sideBySide 14 = .ok (.iload_n 3, 1) := by decide +kernel
theorem dX3_sideBySide_15 : decode cX3_sideBySide 15 = .ok (.iconst 0, 1) := by decide +kernel
theorem dX3_sideBySide_16 : decode cX3_sideBySide 16 = .ok (.iconst 2, 1) := by decide +kernel
theorem dX3_sideBySide_17 : decode cX3_sideBySide 17 = .ok (.invokestatic 51, 3) := by decide +kernel
theorem dX3_sideBySide_20 : decode cX3_sideBySide 20 = .ok (.ifCond .ne 6, 3) := by decide +kernel
theorem dX3_sideBySide_23 : decode cX3_sideBySide 23 = .ok (.bipush (-2), 2) := by decide +kernel
theorem dX3_sideBySide_25 : decode cX3_sideBySide 25 = .ok (.ireturn, 1) := by decide +kernel
theorem dX3_sideBySide_26 : decode cX3_sideBySide 26 = .ok (.iconst 0, 1) := by decide +kernel
theorem dX3_sideBySide_27 : decode cX3_sideBySide 27 = .ok (.istore 4, 2) := by decide +kernel
theorem dX3_sideBySide_29 : decode cX3_sideBySide 29 = .ok (.bipush (-6), 2) := by decide +kernel
theorem dX3_sideBySide_31 : decode cX3_sideBySide 31 = .ok (.istore 5, 2) := by decide +kernel
theorem dX3_sideBySide_33 : decode cX3_sideBySide 33 = .ok (.iconst 0, 1) := by decide +kernel
theorem dX3_sideBySide_34 : decode cX3_sideBySide 34 = .ok (.istore 6, 2) := by decide +kernel
theorem dX3_sideBySide_36 : decode cX3_sideBySide 36 = .ok (.iload 6, 2) := by decide +kernel
theorem dX3_sideBySide_38 : decode cX3_sideBySide 38 = .ok (.iconst 1, 1) := by decide +kernel
theorem dX3_sideBySide_39 : decode cX3_sideBySide 39 = .ok (.iadd, 1) := by decide +kernel
theorem dX3_sideBySide_40 : decode cX3_sideBySide 40 = .ok (.aload_n 0, 1) := by decide +kernel
theorem dX3_sideBySide_41 : decode cX3_sideBySide 41 = .ok (.getfield 10, 3) := by decide +kernel
theorem dX3_sideBySide_44 : decode cX3_sideBySide 44 = .ok (.invokevirtual 79, 3) := by decide +kernel
theorem dX3_sideBySide_47 : decode cX3_sideBySide 47 = .ok (.if_icmp .ge 40, 3) := by decide +kernel
theorem dX3_sideBySide_50 : decode cX3_sideBySide 50 = .ok (.aload_n 0, 1) := by decide +kernel
theorem dX3_sideBySide_51 : decode cX3_sideBySide 51 = .ok (.getfield 10, 3) := by decide +kernel
theorem dX3_sideBySide_54 : decode cX3_sideBySide 54 = .ok (.iload 6, 2) := by decide +kernel
theorem dX3_sideBySide_56 : decode cX3_sideBySide 56 = .ok (.iload_n 1, 1) := by decide +kernel
theorem dX3_sideBySide_57 : decode cX3_sideBySide 57 = .ok (.iload_n 2, 1) := by decide +kernel
theorem dX3_sideBySide_58 : decode cX3_sideBySide 58 = .ok (.invokevirtual 196, 3) := by decide +kernel
theorem dX3_sideBySide_61 : decode cX3_sideBySide 61 = .ok (.ifCond .eq 20, 3) := by decide +kernel
theorem dX3_sideBySide_64 : decode cX3_sideBySide 64 = .ok (.iload 4, 2) := by decide +kernel
theorem dX3_sideBySide_66 : decode cX3_sideBySide 66 = .ok (.ifCond .ne 8, 3) := by decide +kernel
theorem dX3_sideBySide_69 : decode cX3_sideBySide 69 = .ok (.iload 6, 2) := by decide +kernel
theorem dX3_sideBySide_71 : decode cX3_sideBySide 71 = .ok (.goto 5, 3) := by decide +kernel
theorem dX3_sideBySide_74 : decode cX3_sideBySide 74 = .ok (.iload 5, 2) := by decide +kernel
theorem dX3_sideBySide_76 : decode cX3_sideBySide 76 = .ok (.istore 5, 2) := by decide +kernel
theorem dX3_sideBySide_78 : decode cX3_sideBySide 78 = .ok (.iinc 4 1, 3) := by decide +kernel
theorem dX3_sideBySide_81 : decode cX3_sideBySide 81 = .ok (.iinc 6 1, 3) := by decide +kernel
theorem dX3_sideBySide_84 : decode cX3_sideBySide 84 = .ok (.goto (-48), 3) := by decide +kernel
theorem dX3_sideBySide_87 : decode cX3_sideBySide 87 = .ok (.iload_n 3, 1) := by decide +kernel
theorem dX3_sideBySide_88 : decode cX3_sideBySide 88 = .ok (.ifCond .ne 6, 3) := by decide +kernel
theorem dX3_sideBySide_91 : decode cX3_sideBySide 91 = .ok (.iload 4, 2) := by decide +kernel
theorem dX3_sideBySide_93 : decode cX3_sideBySide 93 = .ok (.ireturn, 1) := by decide +kernel
theorem dX3_sideBySide_94 : decode cX3_sideBySide 94 = .ok (.iload 4, 2) := by decide +kernel
theorem dX3_sideBySide_96 : decode cX3_sideBySide 96 = .ok (.ifCond .ne 6, 3) := by decide +kernel
theorem dX3_sideBySide_99 : decode cX3_sideBySide 99 = .ok (.bipush (-6), 2) := by decide +kernel
theorem dX3_sideBySide_101 : decode cX3_sideBySide 101 = .ok (.ireturn, 1) := by decide +kernel
theorem dX3_sideBySide_102 : decode cX3_sideBySide 102 = .ok (.iload_n 3, 1) := by decide +kernel
theorem dX3_sideBySide_103 : decode cX3_sideBySide 103 = .ok (.iconst 1, 1) := by decide +kernel
theorem dX3_sideBySide_104 : decode cX3_sideBySide 104 = .ok (.if_icmp .ne 15, 3) := by decide +kernel
theorem dX3_sideBySide_107 : decode cX3_sideBySide 107 = .ok (.aload_n 0, 1) := by decide +kernel
theorem dX3_sideBySide_108 : decode cX3_sideBySide 108 = .ok (.getfield 10, 3) := by decide +kernel
theorem dX3_sideBySide_111 : decode cX3_sideBySide 111 = .ok (.iload 5, 2) := by decide +kernel
theorem dX3_sideBySide_113 : decode cX3_sideBySide 113 = .ok (.invokevirtual 199, 3) := by decide +kernel
theorem dX3_sideBySide_116 : decode cX3_sideBySide 116 = .ok (.goto 12, 3) := by decide +kernel
theorem dX3_sideBySide_119 : decode cX3_sideBySide 119 = .ok (.aload_n 0, 1) := by decide +kernel
theorem dX3_sideBySide_120 : decode cX3_sideBySide 120 = .ok (.getfield 10, 3) := by decide +kernel
theorem dX3_sideBySide_123 : decode cX3_sideBySide 123 = .ok (.iload 5, 2) := by decide +kernel
theorem dX3_sideBySide_125 : decode cX3_sideBySide 125 = .ok (.invokevirtual 202, 3) := by decide +kernel
theorem dX3_sideBySide_128 : decode cX3_sideBySide 128 = .ok (.ireturn, 1) := by decide +kernel
theorem dX3_common_0 : decode cX3_common 0 = .ok (.aload_n 0, 1) := by decide +kernel
theorem dX3_common_1 : decode cX3_common 1 = .ok (.getfield 10, 3) := by decide +kernel
theorem dX3_common_4 : decode cX3_common 4 = .ok (.iload_n 1, 1) := by decide +kernel
theorem dX3_common_5 : decode cX3_common 5 = .ok (.invokevirtual 105, 3) := by decide +kernel
theorem dX3_common_8 : decode cX3_common 8 = .ok (.ifCond .eq 14, 3) := by decide +kernel
theorem dX3_common_11 : decode cX3_common 11 = .ok (.aload_n 0, 1) := by decide +kernel
theorem dX3_common_12 : decode cX3_common 12 = .ok (.getfield 10, 3) := by decide +kernel
theorem dX3_common_15 : decode cX3_common 15 = .ok (.iload_n 2, 1) := by decide +kernel
theorem dX3_common_16 : decode cX3_common 16 = .ok (.invokevirtual 105, 3) := by decide +kernel
theorem dX3_common_19 : decode cX3_common 19 = .ok (.ifCond .ne 5, 3) := by decide +kernel
theorem dX3_common_22 : decode cX3_common 22 = .ok (.iconst (-1), 1) := by decide +kernel
theorem dX3_common_23 : decode cX3_common 23 = .ok (.ireturn, 1) := by decide +kernel
theorem dX3_common_24 : decode cX3_common 24 = .ok (.aload_n 0, 1) := by decide +kernel
theorem dX3_common_25 : decode cX3_common 25 = .ok (.getfield 10, 3) := by decide +kernel
theorem dX3_common_28 : decode cX3_common 28 = .ok (.getfield 98, 3) := by decide +kernel
theorem dX3_common_31 : decode cX3_common 31 = .ok (.iload_n 2, 1) := by decide +kernel
theorem dX3_common_32 : decode cX3_common 32 = .ok (.iaload, 1) := by decide +kernel
theorem dX3_common_33 : decode cX3_common 33 = .ok (.istore_n 3, 1) := by decide +kernel
theorem dX3_common_34 : decode cX3_common 34 = .ok (.aload_n 0, 1) := by decide +kernel
theorem dX3_common_35 : decode cX3_common 35 = .ok (.getfield 10, 3) := by decide +kernel
theorem dX3_common_38 : decode cX3_common 38 = .ok (.iload_n 2, 1) := by decide +kernel
theorem dX3_common_39 : decode cX3_common 39 = .ok (.invokevirtual 139, 3) := by decide +kernel
theorem dX3_common_42 : decode cX3_common 42 = .ok (.istore 4, 2) := by decide +kernel
theorem dX3_common_44 : decode cX3_common 44 = .ok (.aload_n 0, 1) := by decide +kernel
theorem dX3_common_45 : decode cX3_common 45 = .ok (.getfield 41, 3) := by decide +kernel
theorem dX3_common_48 : decode cX3_common 48 = .ok (.iconst 0, 1) := by decide +kernel
theorem dX3_common_49 : decode cX3_common 49 = .ok (.invokestatic 205, 3) := by decide +kernel
theorem dX3_common_52 : decode cX3_common 52 = .ok (.iconst 0, 1) := by decide +kernel
theorem dX3_common_53 : decode cX3_common 53 = .ok (.istore 5, 2) := by decide +kernel
theorem dX3_common_55 : decode cX3_common 55 = .ok (.aload_n 0, 1) := by decide +kernel
theorem dX3_common_56 : decode cX3_common 56 = .ok (.getfield 10, 3) := by decide +kernel
theorem dX3_common_59 : decode cX3_common 59 = .ok (.getfield 98, 3) := by decide +kernel
theorem dX3_common_62 : decode cX3_common 62 = .ok (.iload_n 1, 1) := by decide +kernel
theorem dX3_common_63 : decode cX3_common 63 = .ok (.iaload, 1) := by decide +kernel
theorem dX3_common_64 : decode cX3_common 64 = .ok (.istore 6, 2) := by decide +kernel
theorem dX3_common_66 : decode cX3_common 66 = .ok (.iload 6, 2) := by decide +kernel
theorem dX3_common_68 : decode cX3_common 68 = .ok (.aload_n 0, 1) := by decide +kernel
theorem dX3_common_69 : decode cX3_common 69 = .ok (.getfield 10, 3) := by decide +kernel
theorem dX3_common_72 : decode cX3_common 72 = .ok (.getfield 98, 3) := by decide +kernel
theorem dX3_common_75 : decode cX3_common 75 = .ok (.iload_n 1, 1) := by decide +kernel
theorem dX3_common_76 : decode cX3_common 76 = .ok (.iconst 1, 1) := by decide +kernel
theorem dX3_common_77 : decode cX3_common 77 = .ok (.iadd, 1) := by decide +kernel
theorem dX3_common_78 : decode cX3_common 78 = .ok (.iaload, 1) := by decide +kernel
theorem dX3_common_79 : decode cX3_common 79 = .ok (.if_icmp .ge 112, 3) := by decide +kernel
theorem dX3_common_82 : decode cX3_common 82 = .ok (.iload 4, 2) := by decide +kernel
theorem dX3_common_84 : decode cX3_common 84 = .ok (.iconst 1, 1) := by decide +kernel
theorem dX3_common_85 : decode cX3_common 85 = .ok (.isub, 1) := by decide +kernel
theorem dX3_common_86 : decode cX3_common 86 = .ok (.istore 7, 2) := by decide +kernel
theorem dX3_common_88 : decode cX3_common 88 = .ok (.iload 7, 2) := by decide +kernel
theorem dX3_common_90 : decode cX3_common 90 = .ok (.ifCond .lt 95, 3) := by decide +kernel
theorem dX3_common_93 : decode cX3_common 93 = .ok (.aload_n 0, 1) := by decide +kernel
theorem dX3_common_94 : decode cX3_common 94 = .ok (.getfield 10, 3) := by decide +kernel
theorem dX3_common_97 : decode cX3_common 97 = .ok (.getfield 142, 3) := by decide +kernel
theorem dX3_common_100 : decode cX3_common 100 = .ok (.iload 6, 2) := by decide +kernel
theorem dX3_common_102 : decode cX3_common 102 = .ok (.iaload, 1) := by decide +kernel
theorem dX3_common_103 : decode cX3_common 103 = .ok (.aload_n 0, 1) := by decide +kernel
theorem dX3_common_104 : decode cX3_common 104 = .ok (.getfield 10, 3) := by decide +kernel
theorem dX3_common_107 : decode cX3_common 107 = .ok (.getfield 142, 3) := by decide +kernel
theorem dX3_common_110 : decode cX3_common 110 = .ok (.iload_n 3, 1) := by decide +kernel
theorem dX3_common_111 : decode cX3_common 111 = .ok (.iload 7, 2) := by decide +kernel
theorem dX3_common_113 : decode cX3_common 113 = .ok (.iadd, 1) := by decide +kernel
theorem dX3_common_114 : decode cX3_common 114 = .ok (.iaload, 1) := by decide +kernel
theorem dX3_common_115 : decode cX3_common 115 = .ok (.if_icmp .ne 7, 3) := by decide +kernel
theorem dX3_common_118 : decode cX3_common 118 = .ok (.iconst 1, 1) := by decide +kernel
theorem dX3_common_119 : decode cX3_common 119 = .ok (.goto 4, 3) := by decide +kernel
theorem dX3_common_122 : decode cX3_common 122 = .ok (.iconst 0, 1) := by decide +kernel
theorem dX3_common_123 : decode cX3_common 123 = .ok (.istore 8, 2) := by decide +kernel
theorem dX3_common_125 : decode cX3_common 125 = .ok (.iload 7, 2) := by decide +kernel
theorem dX3_common_127 : decode cX3_common 127 = .ok (.ifCond .le 15, 3) := by decide +kernel
theorem dX3_common_130 : decode cX3_common 130 = .ok (.aload_n 0, 1) := by decide +kernel
theorem dX3_common_131 : decode cX3_common 131 = .ok (.getfield 41, 3) := by decide +kernel
theorem dX3_common_134 : decode cX3_common 134 = .ok (.iload 7, 2) := by decide +kernel
theorem dX3_common_136 : decode cX3_common 136 = .ok (.iconst 1, 1) := by decide +kernel
theorem dX3_common_137 : decode cX3_common 137 = .ok (.isub, 1) := by decide +kernel
theorem dX3_common_138 : decode cX3_common 138 = .ok (.iaload, 1) := by decide +kernel
theorem dX3_common_139 : decode cX3_common 139 = .ok (.goto 4, 3) := by decide +kernel
theorem dX3_common_142 : decode cX3_common 142 = .ok (.iconst 0, 1) := by decide +kernel
theorem dX3_common_143 : decode cX3_common 143 = .ok (.istore 9, 2) := by decide +kernel
theorem dX3_common_145 : decode cX3_common 145 = .ok (.aload_n 0, 1) := by decide +kernel
theorem dX3_common_146 : decode cX3_common 146 = .ok (.getfield 41, 3) := by decide +kernel
theorem dX3_common_149 : decode cX3_common 149 = .ok (.iload 7, 2) := by decide +kernel
theorem dX3_common_151 : decode cX3_common 151 = .ok (.iload 8, 2) := by decide +kernel
theorem dX3_common_153 : decode cX3_common 153 = .ok (.ifCond .eq 10, 3) := by decide +kernel
theorem dX3_common_156 : decode cX3_common 156 = .ok (.iload 9, 2) := by decide +kernel
theorem dX3_common_158 : decode cX3_common 158 = .ok (.iconst 1, 1) := by decide +kernel
theorem dX3_common_159 : decode cX3_common 159 = .ok (.iadd, 1) := by decide +kernel
theorem dX3_common_160 : decode cX3_common 160 = .ok (.goto 4, 3) := by decide +kernel
theorem dX3_common_163 : decode cX3_common 163 = .ok (.iconst 0, 1) := by decide +kernel
theorem dX3_common_164 : decode cX3_common 164 = .ok (.iastore, 1) := by decide +kernel
theorem dX3_common_165 : decode cX3_common 165 = .ok (.iload 5, 2) := by decide +kernel
theorem dX3_common_167 : decode cX3_common 167 = .ok (.aload_n 0, 1) := by decide +kernel
theorem dX3_common_168 : decode cX3_common 168 = .ok (.getfield 41, 3) := by decide +kernel
theorem dX3_common_171 : decode cX3_common 171 = .ok (.iload 7, 2) := by decide +kernel
theorem dX3_common_173 : decode cX3_common 173 = .ok (.iaload, 1) := by decide +kernel
theorem dX3_common_174 : decode cX3_common 174 = .ok (.invokestatic 127, 3) := by decide +kernel
theorem dX3_common_177 : decode cX3_common 177 = .ok (.istore 5, 2) := by decide +kernel
theorem dX3_common_179 : decode cX3_common 179 = .ok (.iinc 7 (-1), 3) := by decide +kernel
theorem dX3_common_182 : decode cX3_common 182 = .ok (.goto (-94), 3) := by decide +kernel
theorem dX3_common_185 : decode cX3_common 185 = .ok (.iinc 6 1, 3) := by decide +kernel
theorem dX3_common_188 : decode cX3_common 188 = .ok (.goto (-122), 3) := by decide +kernel
theorem dX3_common_191 : decode cX3_common 191 = .ok (.iload 5, 2) := by decide +kernel
theorem dX3_common_193 : decode cX3_common 193 = .ok (.ireturn, 1) := by decide +kernel
theorem dX3_ifHeated_0 : decode cX3_ifHeated 0 = .ok (.aload_n 0, 1) := by decide +kernel
theorem dX3_ifHeated_1 : decode cX3_ifHeated 1 = .ok (.getfield 10, 3) := by decide +kernel
theorem dX3_ifHeated_4 : decode cX3_ifHeated 4 = .ok (.iload_n 1, 1) := by decide +kernel
theorem dX3_ifHeated_5 : decode cX3_ifHeated 5 = .ok (.iload_n 2, 1) := by decide +kernel
theorem dX3_ifHeated_6 : decode cX3_ifHeated 6 = .ok (.invokevirtual 94, 3) := by decide +kernel
theorem dX3_ifHeated_9 : decode cX3_ifHeated 9 = .ok (.ifCond .ne 5, 3) := by decide +kernel
theorem dX3_ifHeated_12 : decode cX3_ifHeated 12 = .ok (.iconst (-1), 1) := by decide +kernel
theorem dX3_ifHeated_13 : decode cX3_ifHeated 13 = .ok (.ireturn, 1) := by decide +kernel
theorem dX3_ifHeated_14 : decode cX3_ifHeated 14 = .ok (.iload_n 3, 1) := by decide +kernel
theorem dX3_ifHeated_15 : decode cX3_ifHeated 15 = .ok (.iconst 1, 1) := by decide +kernel
theorem dX3_ifHeated_16 : decode cX3_ifHeated 16 = .ok (.sipush 500, 3) := by decide +kernel
theorem dX3_ifHeated_19 : decode cX3_ifHeated 19 = .ok (.invokestatic 51, 3) := by decide +kernel
theorem dX3_ifHeated_22 : decode cX3_ifHeated 22 = .ok (.ifCond .eq 13, 3) := by decide +kernel
theorem dX3_ifHeated_25 : decode cX3_ifHeated 25 = .ok (.iload 4, 2) := by decide +kernel
theorem dX3_ifHeated_27 : decode cX3_ifHeated 27 = .ok (.iconst 0, 1) := by decide +kernel
theorem dX3_ifHeated_28 : decode cX3_ifHeated 28 = .ok (.iconst 3, 1) := by decide +kernel
theorem dX3_ifHeated_29 : decode cX3_ifHeated 29 = .ok (.invokestatic 51, 3) := by decide +kernel
theorem dX3_ifHeated_32 : decode cX3_ifHeated 32 = .ok (.ifCond .ne 6, 3) := by decide +kernel
theorem dX3_ifHeated_35 : decode cX3_ifHeated 35 = .ok (.bipush (-2), 2) := by decide +kernel
theorem dX3_ifHeated_37 : decode cX3_ifHeated 37 = .ok (.ireturn, 1) := by decide +kernel
theorem dX3_ifHeated_38 : decode cX3_ifHeated 38 = .ok (.aload_n 0, 1) := by decide +kernel
theorem dX3_ifHeated_39 : decode cX3_ifHeated 39 = .ok (.aload_n 0, 1) := by decide +kernel
theorem dX3_ifHeated_40 : decode cX3_ifHeated 40 = .ok (.getfield 10, 3) := by decide +kernel
theorem dX3_ifHeated_43 : decode cX3_ifHeated 43 = .ok (.getfield 98, 3) := by decide +kernel
theorem dX3_ifHeated_46 : decode cX3_ifHeated 46 = .ok (.iload_n 1, 1) := by decide +kernel
theorem dX3_ifHeated_47 : decode cX3_ifHeated 47 = .ok (.iaload, 1) := by decide +kernel
theorem dX3_ifHeated_48 : decode cX3_ifHeated 48 = .ok (.iload_n 2, 1) := by decide +kernel
theorem dX3_ifHeated_49 : decode cX3_ifHeated 49 = .ok (.iadd, 1) := by decide +kernel
theorem dX3_ifHeated_50 : decode cX3_ifHeated 50 = .ok (.iload_n 3, 1) := by decide +kernel
theorem dX3_ifHeated_51 : decode cX3_ifHeated 51 = .ok (.invokevirtual 211, 3) := by decide +kernel
theorem dX3_ifHeated_54 : decode cX3_ifHeated 54 = .ok (.istore 5, 2) := by decide +kernel
theorem dX3_ifHeated_56 : decode cX3_ifHeated 56 = .ok (.iload 4, 2) := by decide +kernel
theorem dX3_ifHeated_58 : decode cX3_ifHeated 58 = .ok (.tableswitch 53 0 2 #[26, 29, 45], 26) := by decide +kernel
theorem dX3_ifHeated_84 : decode cX3_ifHeated 84 = .ok (.iload 5, 2) := by decide +kernel
theorem dX3_ifHeated_86 : decode cX3_ifHeated 86 = .ok (.ireturn, 1) := by decide +kernel
theorem dX3_ifHeated_87 : decode cX3_ifHeated 87 = .ok (.aload_n 0, 1) := by decide +kernel
theorem dX3_ifHeated_88 : decode cX3_ifHeated 88 = .ok (.getfield 16, 3) := by decide +kernel
theorem dX3_ifHeated_91 : decode cX3_ifHeated 91 = .ok (.getfield 166, 3) := by decide +kernel
theorem dX3_ifHeated_94 : decode cX3_ifHeated 94 = .ok (.aload_n 0, 1) := by decide +kernel
theorem dX3_ifHeated_95 : decode cX3_ifHeated 95 = .ok (.getfield 10, 3) := by decide +kernel
theorem dX3_ifHeated_98 : decode cX3_ifHeated 98 = .ok (.getfield 166, 3) := by decide +kernel
theorem dX3_ifHeated_101 : decode cX3_ifHeated 101 = .ok (.isub, 1) := by decide +kernel
theorem dX3_ifHeated_102 : decode cX3_ifHeated 102 = .ok (.ireturn, 1) := by decide +kernel
theorem dX3_ifHeated_103 : decode cX3_ifHeated 103 = .ok (.aload_n 0, 1) := by decide +kernel
theorem dX3_ifHeated_104 : decode cX3_ifHeated 104 = .ok (.getfield 16, 3) := by decide +kernel
theorem dX3_ifHeated_107 : decode cX3_ifHeated 107 = .ok (.getfield 72, 3) := by decide +kernel
theorem dX3_ifHeated_110 : decode cX3_ifHeated 110 = .ok (.ireturn, 1) := by decide +kernel
theorem dX3_ifHeated_111 : decode cX3_ifHeated 111 = .ok (.aload_n 0, 1) := by decide +kernel
theorem dX3_ifHeated_112 : decode cX3_ifHeated 112 = .ok (.getfield 16, 3) := by decide +kernel
theorem dX3_ifHeated_115 : decode cX3_ifHeated 115 = .ok (.invokevirtual 136, 3) := by decide +kernel
theorem dX3_ifHeated_118 : decode cX3_ifHeated 118 = .ok (.ireturn, 1) := by decide +kernel
theorem dX3_tryHeating_0 : decode cX3_tryHeating 0 = .ok (.aload_n 0, 1) := by decide +kernel
theorem dX3_tryHeating_1 : decode cX3_tryHeating 1 = .ok (.getfield 16, 3) := by decide +kernel
theorem dX3_tryHeating_4 : decode cX3_tryHeating 4 = .ok (.aload_n 0, 1) := by decide +kernel
theorem dX3_tryHeating_5 : decode cX3_tryHeating 5 = .ok (.getfield 10, 3) := by decide +kernel
theorem dX3_tryHeating_8 : decode cX3_tryHeating 8 = .ok (.invokevirtual 113, 3) := by decide +kernel
theorem dX3_tryHeating_11 : decode cX3_tryHeating 11 = .ok (.aload_n 0, 1) := by decide +kernel
theorem dX3_tryHeating_12 : decode cX3_tryHeating 12 = .ok (.getfield 16, 3) := by decide +kernel
theorem dX3_tryHeating_15 : decode cX3_tryHeating 15 = .ok (.iload_n 1, 1) := by decide +kernel
theorem dX3_tryHeating_16 : decode cX3_tryHeating 16 = .ok (.iload_n 2, 1) := by decide +kernel
theorem dX3_tryHeating_17 : decode cX3_tryHeating 17 = .ok (.invokevirtual 101, 3) := by decide +kernel
theorem dX3_tryHeating_20 : decode cX3_tryHeating 20 = .ok (.aload_n 0, 1) := by decide +kernel
theorem dX3_tryHeating_21 : decode cX3_tryHeating 21 = .ok (.getfield 16, 3) := by decide +kernel
theorem dX3_tryHeating_24 : decode cX3_tryHeating 24 = .ok (.invokevirtual 91, 3) := by decide +kernel
theorem dX3_tryHeating_27 : decode cX3_tryHeating 27 = .ok (.ireturn, 1) := by decide +kernel
theorem dX3_isLetter_0 : decode cX3_isLetter 0 = .ok (.iload_n 0, 1) := by decide +kernel
theorem dX3_isLetter_1 : decode cX3_isLetter 1 = .ok (.iconst 0, 1) := by decide +kernel
theorem dX3_isLetter_2 : decode cX3_isLetter 2 = .ok (.bipush 25, 2) := by decide +kernel
theorem dX3_isLetter_4 : decode cX3_isLetter 4 = .ok (.invokestatic 51, 3) := by decide +kernel
theorem dX3_isLetter_7 : decode cX3_isLetter 7 = .ok (.ireturn, 1) := by decide +kernel
theorem ggX3_read_X2_hasStory : GoodIn wsX3_read wsX2_hasStory := goodIn_r _ [8, 9, 10, 11, 12, 82, 83, 84, 85, 86, 87, 88, 89, 90, 91, 92, 93] rfl (by decide +kernel)
theorem gX3_read_X2_hasStory : GoodIn wsX3_read (wsV RX3 105 RX2 yX2_hasStory wsX2_hasStory) := goodIn_app (goodIn_r _ [4, 5, 6, 7] rfl (by decide +kernel)) ggX3_read_X2_hasStory
theorem ggX3_read_X3_isWithin : GoodIn wsX3_read wsX3_isWithin := goodIn_r _ [12] rfl (by decide +kernel)
theorem gX3_read_X3_isWithin : GoodIn wsX3_read (va_wsS RX3 51 yX3_isWithin wsX3_isWithin) := goodIn_app (goodIn_r _ [13, 10, 11] rfl (by decide +kernel)) ggX3_read_X3_isWithin
theorem ggX3_read_X0_record : GoodIn wsX3_read wsX0_record := goodIn_r _ [18, 19, 20, 21, 22, 23, 24, 7, 25, 26, 27, 28, 29, 30, 31, 32, 33, 9, 34, 35, 36, 37, 38, 39, 40, 41, 42, 43, 94, 95, 96, 82, 83, 84, 85, 86, 87, 88, 89, 90, 91, 92, 93] rfl (by decide +kernel)
theorem gX3_read_X0_record : GoodIn wsX3_read (wsV RX3 61 RX0 yX0_record wsX0_record) := goodIn_app (goodIn_r _ [14, 15, 16, 17] rfl (by decide +kernel)) ggX3_read_X0_record
theorem ggX3_read_X2_warm : GoodIn wsX3_read wsX2_warm := goodIn_r _ [47, 32, 48, 49, 50, 51, 82, 83, 84, 85, 86, 87, 88, 89, 90, 91, 92, 93] rfl (by decide +kernel)
theorem gX3_read_X2_warm : GoodIn wsX3_read (wsV RX3 101 RX2 yX2_warm wsX2_warm) := goodIn_app (goodIn_r _ [44, 45, 46, 7] rfl (by decide +kernel)) ggX3_read_X2_warm
theorem ggX3_read_X2_react : GoodIn wsX3_read wsX2_react := goodIn_r _ [55, 56, 32, 26, 57, 58, 50, 59, 40, 41, 42, 7, 43, 33, 9, 60, 61, 62, 63, 38, 37, 39, 64, 65, 66, 67, 68, 69, 70, 71, 27, 28, 29, 30, 34, 35, 72, 45, 46, 47, 48, 49, 51, 82, 83, 84, 85, 86, 87, 88, 89, 90, 91, 92, 93] rfl (by decide +kernel)
theorem gX3_read_X2_react : GoodIn wsX3_read (wsV RX3 91 RX2 yX2_react wsX2_react) := goodIn_app (goodIn_r _ [52, 53, 54, 7] rfl (by decide +kernel)) ggX3_read_X2_react
theorem ggX3_fuse_X2_hasStory : GoodIn wsX3_fuse wsX2_hasStory := goodIn_r _ [15, 16, 17, 18, 19, 111, 112, 113, 114, 115, 116, 117, 118, 119, 120, 121, 122] rfl (by decide +kernel)
theorem gX3_fuse_X2_hasStory : GoodIn wsX3_fuse (wsV RX3 105 RX2 yX2_hasStory wsX2_hasStory) := goodIn_app (goodIn_r _ [11, 12, 13, 14] rfl (by decide +kernel)) ggX3_fuse_X2_hasStory
theorem ggX3_fuse_X2_themeOf : GoodIn wsX3_fuse wsX2_themeOf := goodIn_r _ [23, 24, 25, 26, 27, 14, 28, 29, 30, 31, 32, 33, 34, 111, 112, 113, 114, 115, 116, 117, 118, 119, 120, 121, 122] rfl (by decide +kernel)
theorem gX3_fuse_X2_themeOf : GoodIn wsX3_fuse (wsV RX3 109 RX2 yX2_themeOf wsX2_themeOf) := goodIn_app (goodIn_r _ [20, 21, 22, 14] rfl (by decide +kernel)) ggX3_fuse_X2_themeOf
theorem ggX3_fuse_X0_record : GoodIn wsX3_fuse wsX0_record := goodIn_r _ [39, 40, 41, 42, 43, 44, 45, 14, 46, 47, 48, 49, 50, 51, 30, 52, 29, 16, 53, 54, 55, 56, 57, 58, 59, 60, 61, 62, 123, 124, 125, 111, 112, 113, 114, 115, 116, 117, 118, 119, 120, 121, 122] rfl (by decide +kernel)
theorem gX3_fuse_X0_record : GoodIn wsX3_fuse (wsV RX3 61 RX0 yX0_record wsX0_record) := goodIn_app (goodIn_r _ [35, 36, 37, 38] rfl (by decide +kernel)) ggX3_fuse_X0_record
theorem ggX3_fuse_X2_copyFrom : GoodIn wsX3_fuse wsX2_copyFrom := goodIn_r _ [46, 47, 48, 49, 50, 51, 30, 52, 29, 16, 53, 54, 55, 56, 57, 58, 59, 60, 61, 14, 62, 111, 112, 113, 114, 115, 116, 117, 118, 119, 120, 121, 122] rfl (by decide +kernel)
theorem gX3_fuse_X2_copyFrom : GoodIn wsX3_fuse (wsV RX3 113 RX2 yX2_copyFrom wsX2_copyFrom) := goodIn_app (goodIn_r _ [63, 44, 45, 14] rfl (by decide +kernel)) ggX3_fuse_X2_copyFrom
theorem ggX3_fuse_X2_remove : GoodIn wsX3_fuse wsX2_remove := goodIn_r _ [67, 29, 16, 30, 48, 49, 50, 51, 52, 53, 54, 59, 60, 61, 14, 62, 111, 112, 113, 114, 115, 116, 117, 118, 119, 120, 121, 122] rfl (by decide +kernel)
theorem gX3_fuse_X2_remove : GoodIn wsX3_fuse (wsV RX3 116 RX2 yX2_remove wsX2_remove) := goodIn_app (goodIn_r _ [64, 65, 66, 14] rfl (by decide +kernel)) ggX3_fuse_X2_remove
theorem ggX3_fuse_X2_append : GoodIn wsX3_fuse wsX2_append := goodIn_r _ [71, 29, 30, 48, 49, 50, 51, 52, 16, 72, 73, 74, 14, 75, 59, 60, 61, 62, 111, 112, 113, 114, 115, 116, 117, 118, 119, 120, 121, 122] rfl (by decide +kernel)
theorem gX3_fuse_X2_append : GoodIn wsX3_fuse (wsV RX3 120 RX2 yX2_append wsX2_append) := goodIn_app (goodIn_r _ [68, 69, 70, 14] rfl (by decide +kernel)) ggX3_fuse_X2_append
theorem ggX3_fuse_X2_warm : GoodIn wsX3_fuse wsX2_warm := goodIn_r _ [79, 52, 80, 81, 8, 82, 111, 112, 113, 114, 115, 116, 117, 118, 119, 120, 121, 122] rfl (by decide +kernel)
theorem gX3_fuse_X2_warm : GoodIn wsX3_fuse (wsV RX3 101 RX2 yX2_warm wsX2_warm) := goodIn_app (goodIn_r _ [76, 77, 78, 14] rfl (by decide +kernel)) ggX3_fuse_X2_warm
theorem ggX3_fuse_X2_react : GoodIn wsX3_fuse wsX2_react := goodIn_r _ [86, 87, 52, 47, 88, 7, 8, 9, 59, 60, 61, 14, 62, 29, 16, 89, 90, 91, 92, 57, 56, 58, 93, 94, 95, 96, 97, 98, 99, 100, 48, 49, 50, 51, 53, 54, 101, 77, 78, 79, 80, 81, 82, 111, 112, 113, 114, 115, 116, 117, 118, 119, 120, 121, 122] rfl (by decide +kernel)
theorem gX3_fuse_X2_react : GoodIn wsX3_fuse (wsV RX3 91 RX2 yX2_react wsX2_react) := goodIn_app (goodIn_r _ [83, 84, 85, 14] rfl (by decide +kernel)) ggX3_fuse_X2_react
theorem ggX3_pass_X3_isWithin : GoodIn wsX3_pass wsX3_isWithin := goodIn_r _ [12] rfl (by decide +kernel)
theorem gX3_pass_X3_isWithin : GoodIn wsX3_pass (va_wsS RX3 51 yX3_isWithin wsX3_isWithin) := goodIn_app (goodIn_r _ [9, 10, 11] rfl (by decide +kernel)) ggX3_pass_X3_isWithin
theorem ggX3_pass_X0_record : GoodIn wsX3_pass wsX0_record := goodIn_r _ [17, 18, 19, 20, 21, 22, 23, 24, 25, 26, 27, 28, 29, 30, 31, 32, 33, 34, 35, 36, 37, 38, 39, 40, 41, 42, 43, 44, 75, 76, 77, 63, 64, 65, 66, 67, 68, 69, 70, 71, 72, 73, 74] rfl (by decide +kernel)
theorem gX3_pass_X0_record : GoodIn wsX3_pass (wsV RX3 61 RX0 yX0_record wsX0_record) := goodIn_app (goodIn_r _ [13, 14, 15, 16] rfl (by decide +kernel)) ggX3_pass_X0_record
theorem ggX3_pass_X2_words : GoodIn wsX3_pass wsX2_words := goodIn_r _ [44, 33, 34, 63, 64, 65, 66, 67, 68, 69, 70, 71, 72, 73, 74] rfl (by decide +kernel)
theorem gX3_pass_X2_words : GoodIn wsX3_pass (wsV RX3 79 RX2 yX2_words wsX2_words) := goodIn_app (goodIn_r _ [45, 42, 43, 24] rfl (by decide +kernel)) ggX3_pass_X2_words
theorem ggX3_pass_X2_heatOfAll : GoodIn wsX3_pass wsX2_heatOfAll := goodIn_r _ [49, 41, 42, 43, 24, 44, 33, 34, 50, 51, 52, 53, 32, 63, 64, 65, 66, 67, 68, 69, 70, 71, 72, 73, 74] rfl (by decide +kernel)
theorem gX3_pass_X2_heatOfAll : GoodIn wsX3_pass (wsV RX3 136 RX2 yX2_heatOfAll wsX2_heatOfAll) := goodIn_app (goodIn_r _ [46, 47, 48, 24] rfl (by decide +kernel)) ggX3_pass_X2_heatOfAll
theorem ggX3_burn_X2_hasStory : GoodIn wsX3_burn wsX2_hasStory := goodIn_r _ [7, 8, 9, 10, 11, 59, 60, 61, 62, 63, 64, 65, 66, 67, 68, 69, 70] rfl (by decide +kernel)
theorem gX3_burn_X2_hasStory : GoodIn wsX3_burn (wsV RX3 105 RX2 yX2_hasStory wsX2_hasStory) := goodIn_app (goodIn_r _ [3, 4, 5, 6] rfl (by decide +kernel)) ggX3_burn_X2_hasStory
theorem ggX3_burn_X0_record : GoodIn wsX3_burn wsX0_record := goodIn_r _ [16, 17, 18, 19, 20, 21, 22, 6, 23, 24, 25, 26, 27, 28, 29, 30, 31, 8, 32, 33, 34, 35, 36, 37, 38, 39, 40, 41, 71, 72, 73, 59, 60, 61, 62, 63, 64, 65, 66, 67, 68, 69, 70] rfl (by decide +kernel)
theorem gX3_burn_X0_record : GoodIn wsX3_burn (wsV RX3 61 RX0 yX0_record wsX0_record) := goodIn_app (goodIn_r _ [12, 13, 14, 15] rfl (by decide +kernel)) ggX3_burn_X0_record
theorem ggX3_burn_X2_sizeOf : GoodIn wsX3_burn wsX2_sizeOf := goodIn_r _ [45, 31, 59, 60, 61, 62, 63, 64, 65, 66, 67, 68, 69, 70] rfl (by decide +kernel)
theorem gX3_burn_X2_sizeOf : GoodIn wsX3_burn (wsV RX3 139 RX2 yX2_sizeOf wsX2_sizeOf) := goodIn_app (goodIn_r _ [42, 43, 44, 6] rfl (by decide +kernel)) ggX3_burn_X2_sizeOf
theorem ggX3_burn_X2_remove : GoodIn wsX3_burn wsX2_remove := goodIn_r _ [49, 31, 8, 29, 25, 26, 27, 28, 30, 32, 33, 38, 39, 40, 6, 41, 59, 60, 61, 62, 63, 64, 65, 66, 67, 68, 69, 70] rfl (by decide +kernel)
theorem gX3_burn_X2_remove : GoodIn wsX3_burn (wsV RX3 116 RX2 yX2_remove wsX2_remove) := goodIn_app (goodIn_r _ [46, 47, 48, 6] rfl (by decide +kernel)) ggX3_burn_X2_remove
theorem ggX3_word_X2_hasWord : GoodIn wsX3_word wsX2_hasWord := goodIn_r _ [9, 10, 11, 12, 8, 13, 14, 15, 16, 17, 18, 19, 20, 21, 22, 41, 42, 43, 44, 45, 46, 47, 48, 49, 50, 51, 52] rfl (by decide +kernel)
theorem gX3_word_X2_hasWord : GoodIn wsX3_word (wsV RX3 94 RX2 yX2_hasWord wsX2_hasWord) := goodIn_app (goodIn_r _ [5, 6, 7, 8] rfl (by decide +kernel)) ggX3_word_X2_hasWord
theorem ggX3_word_X2_timesIn : GoodIn wsX3_word wsX2_timesIn := goodIn_r _ [26, 22, 27, 28, 29, 8, 30, 31, 41, 42, 43, 44, 45, 46, 47, 48, 49, 50, 51, 52] rfl (by decide +kernel)
theorem gX3_word_X2_timesIn : GoodIn wsX3_word (wsV RX3 145 RX2 yX2_timesIn wsX2_timesIn) := goodIn_app (goodIn_r _ [23, 24, 25, 8] rfl (by decide +kernel)) ggX3_word_X2_timesIn
theorem ggX3_story_X2_hasStory : GoodIn wsX3_story wsX2_hasStory := goodIn_r _ [8, 9, 10, 11, 12, 63, 64, 65, 66, 67, 68, 69, 70, 71, 72, 73, 74] rfl (by decide +kernel)
theorem gX3_story_X2_hasStory : GoodIn wsX3_story (wsV RX3 105 RX2 yX2_hasStory wsX2_hasStory) := goodIn_app (goodIn_r _ [4, 5, 6, 7] rfl (by decide +kernel)) ggX3_story_X2_hasStory
theorem ggX3_story_X2_sizeOf : GoodIn wsX3_story wsX2_sizeOf := goodIn_r _ [16, 17, 63, 64, 65, 66, 67, 68, 69, 70, 71, 72, 73, 74] rfl (by decide +kernel)
theorem gX3_story_X2_sizeOf : GoodIn wsX3_story (wsV RX3 139 RX2 yX2_sizeOf wsX2_sizeOf) := goodIn_app (goodIn_r _ [13, 14, 15, 7] rfl (by decide +kernel)) ggX3_story_X2_sizeOf
theorem ggX3_story_X2_heatOf : GoodIn wsX3_story wsX2_heatOf := goodIn_r _ [21, 17, 22, 23, 24, 7, 25, 26, 63, 64, 65, 66, 67, 68, 69, 70, 71, 72, 73, 74] rfl (by decide +kernel)
theorem gX3_story_X2_heatOf : GoodIn wsX3_story (wsV RX3 148 RX2 yX2_heatOf wsX2_heatOf) := goodIn_app (goodIn_r _ [18, 19, 20, 7] rfl (by decide +kernel)) ggX3_story_X2_heatOf
theorem ggX3_story_X2_themeOf : GoodIn wsX3_story wsX2_themeOf := goodIn_r _ [30, 31, 32, 33, 34, 7, 35, 17, 36, 37, 38, 39, 40, 63, 64, 65, 66, 67, 68, 69, 70, 71, 72, 73, 74] rfl (by decide +kernel)
theorem gX3_story_X2_themeOf : GoodIn wsX3_story (wsV RX3 109 RX2 yX2_themeOf wsX2_themeOf) := goodIn_app (goodIn_r _ [27, 28, 29, 7] rfl (by decide +kernel)) ggX3_story_X2_themeOf
theorem ggX3_story_X2_hottestOf : GoodIn wsX3_story wsX2_hottestOf := goodIn_r _ [44, 17, 26, 63, 64, 65, 66, 67, 68, 69, 70, 71, 72, 73, 74] rfl (by decide +kernel)
theorem gX3_story_X2_hottestOf : GoodIn wsX3_story (wsV RX3 154 RX2 yX2_hottestOf wsX2_hottestOf) := goodIn_app (goodIn_r _ [41, 42, 43, 7] rfl (by decide +kernel)) ggX3_story_X2_hottestOf
theorem ggX3_story_X2_unlikeLettersOf : GoodIn wsX3_story wsX2_unlikeLettersOf := goodIn_r _ [48, 31, 32, 33, 34, 7, 35, 17, 36, 37, 38, 39, 40, 63, 64, 65, 66, 67, 68, 69, 70, 71, 72, 73, 74] rfl (by decide +kernel)
theorem gX3_story_X2_unlikeLettersOf : GoodIn wsX3_story (wsV RX3 157 RX2 yX2_unlikeLettersOf wsX2_unlikeLettersOf) := goodIn_app (goodIn_r _ [45, 46, 47, 7] rfl (by decide +kernel)) ggX3_story_X2_unlikeLettersOf
theorem ggX3_story_X2_readsFromBothEnds : GoodIn wsX3_story wsX2_readsFromBothEnds := goodIn_r _ [52, 17, 36, 53, 14, 15, 7, 16, 63, 64, 65, 66, 67, 68, 69, 70, 71, 72, 73, 74] rfl (by decide +kernel)
theorem gX3_story_X2_readsFromBothEnds : GoodIn wsX3_story (wsV RX3 160 RX2 yX2_readsFromBothEnds wsX2_readsFromBothEnds) := goodIn_app (goodIn_r _ [49, 50, 51, 7] rfl (by decide +kernel)) ggX3_story_X2_readsFromBothEnds
theorem ggX3_count_X2_words : GoodIn wsX3_count wsX2_words := goodIn_r _ [15, 16, 17, 55, 56, 57, 58, 59, 60, 61, 62, 63, 64, 65, 66] rfl (by decide +kernel)
theorem gX3_count_X2_words : GoodIn wsX3_count (wsV RX3 79 RX2 yX2_words wsX2_words) := goodIn_app (goodIn_r _ [11, 12, 13, 14] rfl (by decide +kernel)) ggX3_count_X2_words
theorem ggX3_count_X2_heatOfAll : GoodIn wsX3_count wsX2_heatOfAll := goodIn_r _ [21, 22, 12, 13, 14, 15, 16, 17, 23, 24, 25, 26, 27, 55, 56, 57, 58, 59, 60, 61, 62, 63, 64, 65, 66] rfl (by decide +kernel)
theorem gX3_count_X2_heatOfAll : GoodIn wsX3_count (wsV RX3 136 RX2 yX2_heatOfAll wsX2_heatOfAll) := goodIn_app (goodIn_r _ [18, 19, 20, 14] rfl (by decide +kernel)) ggX3_count_X2_heatOfAll
theorem ggX3_count_X2_unlikeFamilies : GoodIn wsX3_count wsX2_unlikeFamilies := goodIn_r _ [31, 17, 32, 33, 34, 14, 35, 36, 55, 56, 57, 58, 59, 60, 61, 62, 63, 64, 65, 66] rfl (by decide +kernel)
theorem gX3_count_X2_unlikeFamilies : GoodIn wsX3_count (wsV RX3 163 RX2 yX2_unlikeFamilies wsX2_unlikeFamilies) := goodIn_app (goodIn_r _ [28, 29, 30, 14] rfl (by decide +kernel)) ggX3_count_X2_unlikeFamilies
theorem ggX3_count_X2_greatestGeneration : GoodIn wsX3_count wsX2_greatestGeneration := goodIn_r _ [40, 17, 41, 42, 43, 44, 45, 55, 56, 57, 58, 59, 60, 61, 62, 63, 64, 65, 66] rfl (by decide +kernel)
theorem gX3_count_X2_greatestGeneration : GoodIn wsX3_count (wsV RX3 175 RX2 yX2_greatestGeneration wsX2_greatestGeneration) := goodIn_app (goodIn_r _ [37, 38, 39, 14] rfl (by decide +kernel)) ggX3_count_X2_greatestGeneration
theorem ggX3_letter_X3_isLetter : GoodIn wsX3_letter wsX3_isLetter := goodIn_r _ [5, 6, 7, 4, 8] rfl (by decide +kernel)
theorem gX3_letter_X3_isLetter : GoodIn wsX3_letter (va_wsS RX3 181 yX3_isLetter wsX3_isLetter) := goodIn_app (goodIn_r _ [2, 3, 4] rfl (by decide +kernel)) ggX3_letter_X3_isLetter
theorem ggX3_letter_X2_timesInAll : GoodIn wsX3_letter wsX2_timesInAll := goodIn_r _ [13, 14, 15, 16, 12, 17, 18, 19, 20, 21, 22, 23, 24, 64, 65, 66, 67, 68, 69, 70, 71, 72, 73, 74, 75] rfl (by decide +kernel)
theorem gX3_letter_X2_timesInAll : GoodIn wsX3_letter (wsV RX3 184 RX2 yX2_timesInAll wsX2_timesInAll) := goodIn_app (goodIn_r _ [9, 10, 11, 12] rfl (by decide +kernel)) ggX3_letter_X2_timesInAll
theorem ggX3_letter_X2_storiesWith : GoodIn wsX3_letter wsX2_storiesWith := goodIn_r _ [28, 19, 29, 30, 31, 12, 32, 18, 20, 21, 22, 23, 24, 64, 65, 66, 67, 68, 69, 70, 71, 72, 73, 74, 75] rfl (by decide +kernel)
theorem gX3_letter_X2_storiesWith : GoodIn wsX3_letter (wsV RX3 187 RX2 yX2_storiesWith wsX2_storiesWith) := goodIn_app (goodIn_r _ [25, 26, 27, 12] rfl (by decide +kernel)) ggX3_letter_X2_storiesWith
theorem ggX3_letter_X2_storiesOfTheme : GoodIn wsX3_letter wsX2_storiesOfTheme := goodIn_r _ [36, 19, 37, 38, 39, 12, 40, 41, 42, 43, 44, 45, 18, 24, 46, 47, 48, 49, 64, 65, 66, 67, 68, 69, 70, 71, 72, 73, 74, 75] rfl (by decide +kernel)
theorem gX3_letter_X2_storiesOfTheme : GoodIn wsX3_letter (wsV RX3 190 RX2 yX2_storiesOfTheme wsX2_storiesOfTheme) := goodIn_app (goodIn_r _ [33, 34, 35, 12] rfl (by decide +kernel)) ggX3_letter_X2_storiesOfTheme
theorem ggX3_letter_X2_heatOfLetter : GoodIn wsX3_letter wsX2_heatOfLetter := goodIn_r _ [53, 24, 54, 14, 15, 16, 12, 17, 18, 19, 64, 65, 66, 67, 68, 69, 70, 71, 72, 73, 74, 75] rfl (by decide +kernel)
theorem gX3_letter_X2_heatOfLetter : GoodIn wsX3_letter (wsV RX3 193 RX2 yX2_heatOfLetter wsX2_heatOfLetter) := goodIn_app (goodIn_r _ [50, 51, 52, 12] rfl (by decide +kernel)) ggX3_letter_X2_heatOfLetter
theorem ggX3_sideBySide_X3_isLetter : GoodIn wsX3_sideBySide wsX3_isLetter := goodIn_r _ [5, 6, 7, 4, 8] rfl (by decide +kernel)
theorem gX3_sideBySide_X3_isLetter : GoodIn wsX3_sideBySide (va_wsS RX3 181 yX3_isLetter wsX3_isLetter) := goodIn_app (goodIn_r _ [2, 3, 4] rfl (by decide +kernel)) ggX3_sideBySide_X3_isLetter
theorem ggX3_sideBySide_X3_isWithin : GoodIn wsX3_sideBySide wsX3_isWithin := goodIn_r _ [8] rfl (by decide +kernel)
theorem gX3_sideBySide_X3_isWithin : GoodIn wsX3_sideBySide (va_wsS RX3 51 yX3_isWithin wsX3_isWithin) := goodIn_app (goodIn_r _ [6, 7, 4] rfl (by decide +kernel)) ggX3_sideBySide_X3_isWithin
theorem ggX3_sideBySide_X2_words : GoodIn wsX3_sideBySide wsX2_words := goodIn_r _ [13, 14, 15, 39, 40, 41, 42, 43, 44, 45, 46, 47, 48, 49, 50] rfl (by decide +kernel)
theorem gX3_sideBySide_X2_words : GoodIn wsX3_sideBySide (wsV RX3 79 RX2 yX2_words wsX2_words) := goodIn_app (goodIn_r _ [9, 10, 11, 12] rfl (by decide +kernel)) ggX3_sideBySide_X2_words
theorem ggX3_sideBySide_X2_isPair : GoodIn wsX3_sideBySide wsX2_isPair := goodIn_r _ [19, 20, 21, 22, 23, 12, 24, 15, 14, 39, 40, 41, 42, 43, 44, 45, 46, 47, 48, 49, 50] rfl (by decide +kernel)
theorem gX3_sideBySide_X2_isPair : GoodIn wsX3_sideBySide (wsV RX3 196 RX2 yX2_isPair wsX2_isPair) := goodIn_app (goodIn_r _ [16, 17, 18, 12] rfl (by decide +kernel)) ggX3_sideBySide_X2_isPair
theorem ggX3_sideBySide_X2_storyAt : GoodIn wsX3_sideBySide wsX2_storyAt := goodIn_r _ [24, 15, 14, 39, 40, 41, 42, 43, 44, 45, 46, 47, 48, 49, 50] rfl (by decide +kernel)
theorem gX3_sideBySide_X2_storyAt : GoodIn wsX3_sideBySide (wsV RX3 199 RX2 yX2_storyAt wsX2_storyAt) := goodIn_app (goodIn_r _ [25, 22, 23, 12] rfl (by decide +kernel)) ggX3_sideBySide_X2_storyAt
theorem ggX3_sideBySide_X2_placeOf : GoodIn wsX3_sideBySide wsX2_placeOf := goodIn_r _ [29, 14, 21, 22, 23, 12, 24, 15, 39, 40, 41, 42, 43, 44, 45, 46, 47, 48, 49, 50] rfl (by decide +kernel)
theorem gX3_sideBySide_X2_placeOf : GoodIn wsX3_sideBySide (wsV RX3 202 RX2 yX2_placeOf wsX2_placeOf) := goodIn_app (goodIn_r _ [26, 27, 28, 12] rfl (by decide +kernel)) ggX3_sideBySide_X2_placeOf
theorem ggX3_common_X2_hasStory : GoodIn wsX3_common wsX2_hasStory := goodIn_r _ [13, 14, 15, 16, 17, 36, 37, 38, 39, 40, 41, 42, 43, 44, 45, 46, 47] rfl (by decide +kernel)
theorem gX3_common_X2_hasStory : GoodIn wsX3_common (wsV RX3 105 RX2 yX2_hasStory wsX2_hasStory) := goodIn_app (goodIn_r _ [9, 10, 11, 12] rfl (by decide +kernel)) ggX3_common_X2_hasStory
theorem ggX3_common_X2_sizeOf : GoodIn wsX3_common wsX2_sizeOf := goodIn_r _ [21, 22, 36, 37, 38, 39, 40, 41, 42, 43, 44, 45, 46, 47] rfl (by decide +kernel)
theorem gX3_common_X2_sizeOf : GoodIn wsX3_common (wsV RX3 139 RX2 yX2_sizeOf wsX2_sizeOf) := goodIn_app (goodIn_r _ [18, 19, 20, 12] rfl (by decide +kernel)) ggX3_common_X2_sizeOf
theorem ggX3_common_J7_fill_53178 : GoodIn wsX3_common wsJ7_fill_53178 := goodIn_r _ [26] rfl (by decide +kernel)
theorem gX3_common_J7_fill_53178 : GoodIn wsX3_common (va_wsS RX3 205 yJ7_fill_53178 wsJ7_fill_53178) := goodIn_app (goodIn_r _ [23, 24, 25] rfl (by decide +kernel)) ggX3_common_J7_fill_53178
theorem ggX3_ifHeated_X2_hasWord : GoodIn wsX3_ifHeated wsX2_hasWord := goodIn_r _ [10, 11, 12, 13, 9, 14, 15, 16, 17, 18, 19, 20, 21, 22, 23, 96, 97, 98, 99, 100, 101, 102, 103, 104, 105, 106, 107] rfl (by decide +kernel)
theorem gX3_ifHeated_X2_hasWord : GoodIn wsX3_ifHeated (wsV RX3 94 RX2 yX2_hasWord wsX2_hasWord) := goodIn_app (goodIn_r _ [6, 7, 8, 9] rfl (by decide +kernel)) ggX3_ifHeated_X2_hasWord
theorem ggX3_ifHeated_X3_isWithin : GoodIn wsX3_ifHeated wsX3_isWithin := goodIn_r _ [18] rfl (by decide +kernel)
theorem gX3_ifHeated_X3_isWithin : GoodIn wsX3_ifHeated (va_wsS RX3 51 yX3_isWithin wsX3_isWithin) := goodIn_app (goodIn_r _ [24, 16, 17] rfl (by decide +kernel)) ggX3_ifHeated_X3_isWithin
theorem ggX3_ifHeated_X3_tryHeating : GoodIn wsX3_ifHeated wsX3_tryHeating := goodIn_r _ [28, 3, 1, 29, 30, 31, 9, 32, 33, 34, 35, 36, 37, 38, 39, 23, 15, 40, 41, 42, 43, 44, 45, 46, 47, 48, 49, 50, 51, 52, 53, 54, 55, 56, 57, 58, 59, 60, 61, 62, 63, 64, 65, 66, 67, 68, 69, 70, 71, 72, 73, 74, 75, 76, 77, 78, 87, 88, 89, 90, 91, 92, 93, 94, 95, 96, 97, 98, 99, 100, 101, 102, 103, 104, 105, 106, 107] rfl (by decide +kernel)
theorem gX3_ifHeated_X3_tryHeating : GoodIn wsX3_ifHeated (wsV RX3 211 RX3 yX3_tryHeating wsX3_tryHeating) := goodIn_app (goodIn_r _ [25, 26, 27, 17] rfl (by decide +kernel)) ggX3_ifHeated_X3_tryHeating
theorem ggX3_ifHeated_X2_heatOfAll : GoodIn wsX3_ifHeated wsX2_heatOfAll := goodIn_r _ [82, 46, 47, 48, 9, 49, 23, 15, 83, 84, 85, 86, 39, 96, 97, 98, 99, 100, 101, 102, 103, 104, 105, 106, 107] rfl (by decide +kernel)
theorem gX3_ifHeated_X2_heatOfAll : GoodIn wsX3_ifHeated (wsV RX3 136 RX2 yX2_heatOfAll wsX2_heatOfAll) := goodIn_app (goodIn_r _ [79, 80, 81, 9] rfl (by decide +kernel)) ggX3_ifHeated_X2_heatOfAll
theorem ggX3_tryHeating_X2_copyFrom : GoodIn wsX3_tryHeating wsX2_copyFrom := goodIn_r _ [7, 8, 9, 10, 11, 12, 13, 14, 15, 16, 17, 18, 19, 20, 21, 22, 23, 24, 25, 6, 26, 65, 66, 67, 68, 69, 70, 71, 72, 73, 74, 75, 76] rfl (by decide +kernel)
theorem gX3_tryHeating_X2_copyFrom : GoodIn wsX3_tryHeating (wsV RX3 113 RX2 yX2_copyFrom wsX2_copyFrom) := goodIn_app (goodIn_r _ [3, 4, 5, 6] rfl (by decide +kernel)) ggX3_tryHeating_X2_copyFrom
theorem ggX3_tryHeating_X2_warm : GoodIn wsX3_tryHeating wsX2_warm := goodIn_r _ [30, 14, 31, 32, 33, 34, 65, 66, 67, 68, 69, 70, 71, 72, 73, 74, 75, 76] rfl (by decide +kernel)
theorem gX3_tryHeating_X2_warm : GoodIn wsX3_tryHeating (wsV RX3 101 RX2 yX2_warm wsX2_warm) := goodIn_app (goodIn_r _ [27, 28, 29, 6] rfl (by decide +kernel)) ggX3_tryHeating_X2_warm
theorem ggX3_tryHeating_X2_react : GoodIn wsX3_tryHeating wsX2_react := goodIn_r _ [38, 39, 14, 8, 40, 41, 33, 42, 23, 24, 25, 6, 26, 15, 16, 43, 44, 45, 46, 21, 20, 22, 47, 48, 49, 50, 51, 52, 53, 54, 9, 10, 11, 12, 17, 18, 55, 28, 29, 30, 31, 32, 34, 65, 66, 67, 68, 69, 70, 71, 72, 73, 74, 75, 76] rfl (by decide +kernel)
theorem gX3_tryHeating_X2_react : GoodIn wsX3_tryHeating (wsV RX3 91 RX2 yX2_react wsX2_react) := goodIn_app (goodIn_r _ [35, 36, 37, 6] rfl (by decide +kernel)) ggX3_tryHeating_X2_react
theorem ggX3_isLetter_X3_isWithin : GoodIn wsX3_isLetter wsX3_isWithin := goodIn_r _ [4] rfl (by decide +kernel)
theorem gX3_isLetter_X3_isWithin : GoodIn wsX3_isLetter (va_wsS RX3 51 yX3_isWithin wsX3_isWithin) := goodIn_app (goodIn_r _ [1, 2, 3] rfl (by decide +kernel)) ggX3_isLetter_X3_isWithin
