theorem dX4_write_0 : decode cX4_write 0 = .ok (.aload_n 0, 1) := by decide +kernel
theorem dX4_write_1 : decode cX4_write 1 = .ok (.invokevirtual 164, 3) := by decide +kernel
theorem dX4_write_4 : decode cX4_write 4 = .ok (.aload_n 0, 1) := by decide +kernel
theorem dX4_write_5 : decode cX4_write 5 = .ok (.getfield 148, 3) := by decide +kernel
theorem dX4_write_8 : decode cX4_write 8 = .ok (.ifCond .eq 6, 3) := by decide +kernel
theorem dX4_write_11 : decode cX4_write 11 = .ok (.bipush (-3), 2) := by decide +kernel
theorem dX4_write_13 : decode cX4_write 13 = .ok (.ireturn, 1) := by decide +kernel
theorem dX4_write_14 : decode cX4_write 14 = .ok (.aload_n 0, 1) := by decide +kernel
theorem dX4_write_15 : decode cX4_write 15 = .ok (.getfield 7, 3) := by decide +kernel
theorem dX4_write_18 : decode cX4_write 18 = .ok (.iconst 3, 1) := by decide +kernel
theorem dX4_write_19 : decode cX4_write 19 = .ok (.iaload, 1) := by decide +kernel
theorem dX4_write_20 : decode cX4_write 20 = .ok (.aload_n 0, 1) := by decide +kernel
theorem dX4_write_21 : decode cX4_write 21 = .ok (.getfield 155, 3) := by decide +kernel
theorem dX4_write_24 : decode cX4_write 24 = .ok (.iadd, 1) := by decide +kernel
theorem dX4_write_25 : decode cX4_write 25 = .ok (.bipush 12, 2) := by decide +kernel
theorem dX4_write_27 : decode cX4_write 27 = .ok (.if_icmp .gt 20, 3) := by decide +kernel
theorem dX4_write_30 : decode cX4_write 30 = .ok (.aload_n 0, 1) := by decide +kernel
theorem dX4_write_31 : decode cX4_write 31 = .ok (.getfield 7, 3) := by decide +kernel
theorem dX4_write_34 : decode cX4_write 34 = .ok (.iconst 4, 1) := by decide +kernel
theorem dX4_write_35 : decode cX4_write 35 = .ok (.iaload, 1) := by decide +kernel
theorem dX4_write_36 : decode cX4_write 36 = .ok (.aload_n 0, 1) := by decide +kernel
theorem dX4_write_37 : decode cX4_write 37 = .ok (.getfield 152, 3) := by decide +kernel
theorem dX4_write_40 : decode cX4_write 40 = .ok (.iadd, 1) := by decide +kernel
theorem dX4_write_41 : decode cX4_write 41 = .ok (.sipush 150, 3) := by decide +kernel
theorem dX4_write_44 : decode cX4_write 44 = .ok (.if_icmp .le 6, 3) := by decide +kernel
theorem dX4_write_47 : decode cX4_write 47 = .ok (.bipush (-4), 2) := by decide +kernel
theorem dX4_write_49 : decode cX4_write 49 = .ok (.ireturn, 1) := by decide +kernel
theorem dX4_write_50 : decode cX4_write 50 = .ok (.aload_n 0, 1) := by decide +kernel
theorem dX4_write_51 : decode cX4_write 51 = .ok (.invokevirtual 78, 3) := by decide +kernel
theorem dX4_write_54 : decode cX4_write 54 = .ok (.aload_n 0, 1) := by decide +kernel
theorem dX4_write_55 : decode cX4_write 55 = .ok (.getfield 7, 3) := by decide +kernel
theorem dX4_write_58 : decode cX4_write 58 = .ok (.iconst 3, 1) := by decide +kernel
theorem dX4_write_59 : decode cX4_write 59 = .ok (.iaload, 1) := by decide +kernel
theorem dX4_write_60 : decode cX4_write 60 = .ok (.istore_n 1, 1) := by decide +kernel
theorem dX4_write_61 : decode cX4_write 61 = .ok (.iconst 0, 1) := by decide +kernel
theorem dX4_write_62 : decode cX4_write 62 = .ok (.istore_n 2, 1) := by decide +kernel
theorem dX4_write_63 : decode cX4_write 63 = .ok (.iload_n 2, 1) := by decide +kernel
theorem dX4_write_64 : decode cX4_write 64 = .ok (.aload_n 0, 1) := by decide +kernel
theorem dX4_write_65 : decode cX4_write 65 = .ok (.getfield 155, 3) := by decide +kernel
theorem dX4_write_68 : decode cX4_write 68 = .ok (.if_icmp .ge 60, 3) := by decide +kernel
theorem dX4_write_71 : decode cX4_write 71 = .ok (.aload_n 0, 1) := by decide +kernel
theorem dX4_write_72 : decode cX4_write 72 = .ok (.getfield 7, 3) := by decide +kernel
theorem dX4_write_75 : decode cX4_write 75 = .ok (.bipush 9, 2) := by decide +kernel
theorem dX4_write_77 : decode cX4_write 77 = .ok (.iload_n 1, 1) := by decide +kernel
theorem dX4_write_78 : decode cX4_write 78 = .ok (.iadd, 1) := by decide +kernel
theorem dX4_write_79 : decode cX4_write 79 = .ok (.iload_n 2, 1) := by decide +kernel
theorem dX4_write_80 : decode cX4_write 80 = .ok (.iadd, 1) := by decide +kernel
theorem dX4_write_81 : decode cX4_write 81 = .ok (.iconst 0, 1) := by decide +kernel
theorem dX4_write_82 : decode cX4_write 82 = .ok (.iastore, 1) := by decide +kernel
theorem dX4_write_83 : decode cX4_write 83 = .ok (.aload_n 0, 1) := by decide +kernel
theorem dX4_write_84 : decode cX4_write 84 = .ok (.getfield 7, 3) := by decide +kernel
theorem dX4_write_87 : decode cX4_write 87 = .ok (.bipush 21, 2) := by decide +kernel
theorem dX4_write_89 : decode cX4_write 89 = .ok (.iload_n 1, 1) := by decide +kernel
theorem dX4_write_90 : decode cX4_write 90 = .ok (.iadd, 1) := by decide +kernel
theorem dX4_write_91 : decode cX4_write 91 = .ok (.iload_n 2, 1) := by decide +kernel
theorem dX4_write_92 : decode cX4_write 92 = .ok (.iadd, 1) := by decide +kernel
theorem dX4_write_93 : decode cX4_write 93 = .ok (.aload_n 0, 1) := by decide +kernel
theorem dX4_write_94 : decode cX4_write 94 = .ok (.getfield 7, 3) := by decide +kernel
theorem dX4_write_97 : decode cX4_write 97 = .ok (.iconst 5, 1) := by decide +kernel
theorem dX4_write_98 : decode cX4_write 98 = .ok (.iaload, 1) := by decide +kernel
theorem dX4_write_99 : decode cX4_write 99 = .ok (.iastore, 1) := by decide +kernel
theorem dX4_write_100 : decode cX4_write 100 = .ok (.aload_n 0, 1) := by decide +kernel
theorem dX4_write_101 : decode cX4_write 101 = .ok (.getfield 7, 3) := by decide +kernel
theorem dX4_write_104 : decode cX4_write 104 = .ok (.bipush 33, 2) := by decide +kernel
theorem dX4_write_106 : decode cX4_write 106 = .ok (.iload_n 1, 1) := by decide +kernel
theorem dX4_write_107 : decode cX4_write 107 = .ok (.iadd, 1) := by decide +kernel
theorem dX4_write_108 : decode cX4_write 108 = .ok (.iload_n 2, 1) := by decide +kernel
theorem dX4_write_109 : decode cX4_write 109 = .ok (.iadd, 1) := by decide +kernel
theorem dX4_write_110 : decode cX4_write 110 = .ok (.iconst 0, 1) := by decide +kernel
theorem dX4_write_111 : decode cX4_write 111 = .ok (.iastore, 1) := by decide +kernel
theorem dX4_write_112 : decode cX4_write 112 = .ok (.aload_n 0, 1) := by decide +kernel
theorem dX4_write_113 : decode cX4_write 113 = .ok (.getfield 7, 3) := by decide +kernel
theorem dX4_write_116 : decode cX4_write 116 = .ok (.iconst 5, 1) := by decide +kernel
theorem dX4_write_117 : decode cX4_write 117 = .ok (.dup2, 1) := by decide +kernel
theorem dX4_write_118 : decode cX4_write 118 = .ok (.iaload, 1) := by decide +kernel
theorem dX4_write_119 : decode cX4_write 119 = .ok (.iconst 1, 1) := by decide +kernel
theorem dX4_write_120 : decode cX4_write 120 = .ok (.iadd, 1) := by decide +kernel
theorem dX4_write_121 : decode cX4_write 121 = .ok (.iastore, 1) := by decide +kernel
theorem dX4_write_122 : decode cX4_write 122 = .ok (.iinc 2 1, 3) := by decide +kernel
theorem dX4_write_125 : decode cX4_write 125 = .ok (.goto (-62), 3) := by decide +kernel
theorem dX4_write_128 : decode cX4_write 128 = .ok (.iconst 0, 1) := by decide +kernel
theorem dX4_write_129 : decode cX4_write 129 = .ok (.istore_n 2, 1) := by decide +kernel
theorem dX4_write_130 : decode cX4_write 130 = .ok (.iload_n 2, 1) := by decide +kernel
theorem dX4_write_131 : decode cX4_write 131 = .ok (.aload_n 0, 1) := by decide +kernel
theorem dX4_write_132 : decode cX4_write 132 = .ok (.getfield 152, 3) := by decide +kernel
theorem dX4_write_135 : decode cX4_write 135 = .ok (.if_icmp .ge 74, 3) := by decide +kernel
theorem dX4_write_138 : decode cX4_write 138 = .ok (.aload_n 0, 1) := by decide +kernel
theorem dX4_write_139 : decode cX4_write 139 = .ok (.getfield 7, 3) := by decide +kernel
theorem dX4_write_142 : decode cX4_write 142 = .ok (.bipush 45, 2) := by decide +kernel
theorem dX4_write_144 : decode cX4_write 144 = .ok (.aload_n 0, 1) := by decide +kernel
theorem dX4_write_145 : decode cX4_write 145 = .ok (.getfield 7, 3) := by decide +kernel
theorem dX4_write_148 : decode cX4_write 148 = .ok (.iconst 4, 1) := by decide +kernel
theorem dX4_write_149 : decode cX4_write 149 = .ok (.iaload, 1) := by decide +kernel
theorem dX4_write_150 : decode cX4_write 150 = .ok (.iadd, 1) := by decide +kernel
theorem dX4_write_151 : decode cX4_write 151 = .ok (.iload_n 2, 1) := by decide +kernel
theorem dX4_write_152 : decode cX4_write 152 = .ok (.iadd, 1) := by decide +kernel
theorem dX4_write_153 : decode cX4_write 153 = .ok (.aload_n 0, 1) := by decide +kernel
theorem dX4_write_154 : decode cX4_write 154 = .ok (.getfield 35, 3) := by decide +kernel
theorem dX4_write_157 : decode cX4_write 157 = .ok (.iload_n 2, 1) := by decide +kernel
theorem dX4_write_158 : decode cX4_write 158 = .ok (.iaload, 1) := by decide +kernel
theorem dX4_write_159 : decode cX4_write 159 = .ok (.iastore, 1) := by decide +kernel
theorem dX4_write_160 : decode cX4_write 160 = .ok (.aload_n 0, 1) := by decide +kernel
theorem dX4_write_161 : decode cX4_write 161 = .ok (.getfield 7, 3) := by decide +kernel
theorem dX4_write_164 : decode cX4_write 164 = .ok (.sipush 195, 3) := by decide +kernel
theorem dX4_write_167 : decode cX4_write 167 = .ok (.aload_n 0, 1) := by decide +kernel
theorem dX4_write_168 : decode cX4_write 168 = .ok (.getfield 7, 3) := by decide +kernel
theorem dX4_write_171 : decode cX4_write 171 = .ok (.iconst 4, 1) := by decide +kernel
theorem dX4_write_172 : decode cX4_write 172 = .ok (.iaload, 1) := by decide +kernel
theorem dX4_write_173 : decode cX4_write 173 = .ok (.iadd, 1) := by decide +kernel
theorem dX4_write_174 : decode cX4_write 174 = .ok (.iload_n 2, 1) := by decide +kernel
theorem dX4_write_175 : decode cX4_write 175 = .ok (.iadd, 1) := by decide +kernel
theorem dX4_write_176 : decode cX4_write 176 = .ok (.aload_n 0, 1) := by decide +kernel
theorem dX4_write_177 : decode cX4_write 177 = .ok (.getfield 38, 3) := by decide +kernel
theorem dX4_write_180 : decode cX4_write 180 = .ok (.iload_n 2, 1) := by decide +kernel
theorem dX4_write_181 : decode cX4_write 181 = .ok (.iaload, 1) := by decide +kernel
theorem dX4_write_182 : decode cX4_write 182 = .ok (.iastore, 1) := by decide +kernel
theorem dX4_write_183 : decode cX4_write 183 = .ok (.aload_n 0, 1) := by decide +kernel
theorem dX4_write_184 : decode cX4_write 184 = .ok (.getfield 7, 3) := by decide +kernel
theorem dX4_write_187 : decode cX4_write 187 = .ok (.bipush 9, 2) := by decide +kernel
theorem dX4_write_189 : decode cX4_write 189 = .ok (.iload_n 1, 1) := by decide +kernel
theorem dX4_write_190 : decode cX4_write 190 = .ok (.iadd, 1) := by decide +kernel
theorem dX4_write_191 : decode cX4_write 191 = .ok (.aload_n 0, 1) := by decide +kernel
theorem dX4_write_192 : decode cX4_write 192 = .ok (.getfield 41, 3) := by decide +kernel
theorem dX4_write_195 : decode cX4_write 195 = .ok (.iload_n 2, 1) := by decide +kernel
theorem dX4_write_196 : decode cX4_write 196 = .ok (.iaload, 1) := by decide +kernel
theorem dX4_write_197 : decode cX4_write 197 = .ok (.iadd, 1) := by decide +kernel
theorem dX4_write_198 : decode cX4_write 198 = .ok (.dup2, 1) := by decide +kernel
theorem dX4_write_199 : decode cX4_write 199 = .ok (.iaload, 1) := by decide +kernel
theorem dX4_write_200 : decode cX4_write 200 = .ok (.iconst 1, 1) := by decide +kernel
theorem dX4_write_201 : decode cX4_write 201 = .ok (.iadd, 1) := by decide +kernel
theorem dX4_write_202 : decode cX4_write 202 = .ok (.iastore, 1) := by decide +kernel
theorem dX4_write_203 : decode cX4_write 203 = .ok (.iinc 2 1, 3) := by decide +kernel
theorem dX4_write_206 : decode cX4_write 206 = .ok (.goto (-76), 3) := by decide +kernel
theorem dX4_write_209 : decode cX4_write 209 = .ok (.aload_n 0, 1) := by decide +kernel
theorem dX4_write_210 : decode cX4_write 210 = .ok (.getfield 7, 3) := by decide +kernel
theorem dX4_write_213 : decode cX4_write 213 = .ok (.iconst 3, 1) := by decide +kernel
theorem dX4_write_214 : decode cX4_write 214 = .ok (.dup2, 1) := by decide +kernel
theorem dX4_write_215 : decode cX4_write 215 = .ok (.iaload, 1) := by decide +kernel
theorem dX4_write_216 : decode cX4_write 216 = .ok (.aload_n 0, 1) := by decide +kernel
theorem dX4_write_217 : decode cX4_write 217 = .ok (.getfield 155, 3) := by decide +kernel
theorem dX4_write_220 : decode cX4_write 220 = .ok (.iadd, 1) := by decide +kernel
theorem dX4_write_221 : decode cX4_write 221 = .ok (.iastore, 1) := by decide +kernel
theorem dX4_write_222 : decode cX4_write 222 = .ok (.aload_n 0, 1) := by decide +kernel
theorem dX4_write_223 : decode cX4_write 223 = .ok (.getfield 7, 3) := by decide +kernel
theorem dX4_write_226 : decode cX4_write 226 = .ok (.iconst 4, 1) := by decide +kernel
theorem dX4_write_227 : decode cX4_write 227 = .ok (.dup2, 1) := by decide +kernel
theorem dX4_write_228 : decode cX4_write 228 = .ok (.iaload, 1) := by decide +kernel
theorem dX4_write_229 : decode cX4_write 229 = .ok (.aload_n 0, 1) := by decide +kernel
theorem dX4_write_230 : decode cX4_write 230 = .ok (.getfield 152, 3) := by decide +kernel
theorem dX4_write_233 : decode cX4_write 233 = .ok (.iadd, 1) := by decide +kernel
theorem dX4_write_234 : decode cX4_write 234 = .ok (.iastore, 1) := by decide +kernel
theorem dX4_write_235 : decode cX4_write 235 = .ok (.aload_n 0, 1) := by decide +kernel
theorem dX4_write_236 : decode cX4_write 236 = .ok (.iconst 0, 1) := by decide +kernel
theorem dX4_write_237 : decode cX4_write 237 = .ok (.putfield 119, 3) := by decide +kernel
theorem dX4_write_240 : decode cX4_write 240 = .ok (.aload_n 0, 1) := by decide +kernel
theorem dX4_write_241 : decode cX4_write 241 = .ok (.invokevirtual 85, 3) := by decide +kernel
theorem dX4_write_244 : decode cX4_write 244 = .ok (.istore_n 2, 1) := by decide +kernel
theorem dX4_write_245 : decode cX4_write 245 = .ok (.aload_n 0, 1) := by decide +kernel
theorem dX4_write_246 : decode cX4_write 246 = .ok (.getfield 7, 3) := by decide +kernel
theorem dX4_write_249 : decode cX4_write 249 = .ok (.iconst 3, 1) := by decide +kernel
theorem dX4_write_250 : decode cX4_write 250 = .ok (.iaload, 1) := by decide +kernel
theorem dX4_write_251 : decode cX4_write 251 = .ok (.ireturn, 1) := by decide +kernel
theorem dX4_undo_0 : decode cX4_undo 0 = .ok (.aload_n 0, 1) := by decide +kernel
theorem dX4_undo_1 : decode cX4_undo 1 = .ok (.getfield 52, 3) := by decide +kernel
theorem dX4_undo_4 : decode cX4_undo 4 = .ok (.ifCond .ne 6, 3) := by decide +kernel
theorem dX4_undo_7 : decode cX4_undo 7 = .ok (.bipush (-5), 2) := by decide +kernel
theorem dX4_undo_9 : decode cX4_undo 9 = .ok (.ireturn, 1) := by decide +kernel
theorem dX4_undo_10 : decode cX4_undo 10 = .ok (.aload_n 0, 1) := by decide +kernel
theorem dX4_undo_11 : decode cX4_undo 11 = .ok (.dup, 1) := by decide +kernel
theorem dX4_undo_12 : decode cX4_undo 12 = .ok (.getfield 52, 3) := by decide +kernel
theorem dX4_undo_15 : decode cX4_undo 15 = .ok (.iconst 1, 1) := by decide +kernel
theorem dX4_undo_16 : decode cX4_undo 16 = .ok (.isub, 1) := by decide +kernel
theorem dX4_undo_17 : decode cX4_undo 17 = .ok (.putfield 52, 3) := by decide +kernel
theorem dX4_undo_20 : decode cX4_undo 20 = .ok (.iconst 0, 1) := by decide +kernel
theorem dX4_undo_21 : decode cX4_undo 21 = .ok (.istore_n 1, 1) := by decide +kernel
theorem dX4_undo_22 : decode cX4_undo 22 = .ok (.iload_n 1, 1) := by decide +kernel
theorem dX4_undo_23 : decode cX4_undo 23 = .ok (.sipush 345, 3) := by decide +kernel
theorem dX4_undo_26 : decode cX4_undo 26 = .ok (.if_icmp .ge 30, 3) := by decide +kernel
theorem dX4_undo_29 : decode cX4_undo 29 = .ok (.aload_n 0, 1) := by decide +kernel
theorem dX4_undo_30 : decode cX4_undo 30 = .ok (.getfield 7, 3) := by decide +kernel
theorem dX4_undo_33 : decode cX4_undo 33 = .ok (.iload_n 1, 1) := by decide +kernel
theorem dX4_undo_34 : decode cX4_undo 34 = .ok (.aload_n 0, 1) := by decide +kernel
theorem dX4_undo_35 : decode cX4_undo 35 = .ok (.getfield 16, 3) := by decide +kernel
theorem dX4_undo_38 : decode cX4_undo 38 = .ok (.sipush 345, 3) := by decide +kernel
theorem dX4_undo_41 : decode cX4_undo 41 = .ok (.aload_n 0, 1) := by decide +kernel
theorem dX4_undo_42 : decode cX4_undo 42 = .ok (.getfield 52, 3) := by decide +kernel
theorem dX4_undo_45 : decode cX4_undo 45 = .ok (.imul, 1) := by decide +kernel
theorem dX4_undo_46 : decode cX4_undo 46 = .ok (.iload_n 1, 1) := by decide +kernel
theorem dX4_undo_47 : decode cX4_undo 47 = .ok (.iadd, 1) := by decide +kernel
theorem dX4_undo_48 : decode cX4_undo 48 = .ok (.iaload, 1) := by decide +kernel
theorem dX4_undo_49 : decode cX4_undo 49 = .ok (.iastore, 1) := by decide +kernel
theorem dX4_undo_50 : decode cX4_undo 50 = .ok (.iinc 1 1, 3) := by decide +kernel
theorem dX4_undo_53 : decode cX4_undo 53 = .ok (.goto (-31), 3) := by decide +kernel
theorem dX4_undo_56 : decode cX4_undo 56 = .ok (.aload_n 0, 1) := by decide +kernel
theorem dX4_undo_57 : decode cX4_undo 57 = .ok (.getfield 52, 3) := by decide +kernel
theorem dX4_undo_60 : decode cX4_undo 60 = .ok (.ireturn, 1) := by decide +kernel
theorem dX4_save_0 : decode cX4_save 0 = .ok (.iload_n 1, 1) := by decide +kernel
theorem dX4_save_1 : decode cX4_save 1 = .ok (.iconst 0, 1) := by decide +kernel
theorem dX4_save_2 : decode cX4_save 2 = .ok (.iconst 1, 1) := by decide +kernel
theorem dX4_save_3 : decode cX4_save 3 = .ok (.invokestatic 44, 3) := by decide +kernel
theorem dX4_save_6 : decode cX4_save 6 = .ok (.ifCond .ne 6, 3) := by decide +kernel
theorem dX4_save_9 : decode cX4_save 9 = .ok (.bipush (-2), 2) := by decide +kernel
theorem dX4_save_11 : decode cX4_save 11 = .ok (.ireturn, 1) := by decide +kernel
theorem dX4_save_12 : decode cX4_save 12 = .ok (.iconst 0, 1) := by decide +kernel
theorem dX4_save_13 : decode cX4_save 13 = .ok (.istore_n 2, 1) := by decide +kernel
theorem dX4_save_14 : decode cX4_save 14 = .ok (.iload_n 2, 1) := by decide +kernel
theorem dX4_save_15 : decode cX4_save 15 = .ok (.sipush 345, 3) := by decide +kernel
theorem dX4_save_18 : decode cX4_save 18 = .ok (.if_icmp .ge 27, 3) := by decide +kernel
theorem dX4_save_21 : decode cX4_save 21 = .ok (.aload_n 0, 1) := by decide +kernel
theorem dX4_save_22 : decode cX4_save 22 = .ok (.getfield 19, 3) := by decide +kernel
theorem dX4_save_25 : decode cX4_save 25 = .ok (.sipush 345, 3) := by decide +kernel
theorem dX4_save_28 : decode cX4_save 28 = .ok (.iload_n 1, 1) := by decide +kernel
theorem dX4_save_29 : decode cX4_save 29 = .ok (.imul, 1) := by decide +kernel
theorem dX4_save_30 : decode cX4_save 30 = .ok (.iload_n 2, 1) := by decide +kernel
theorem dX4_save_31 : decode cX4_save 31 = .ok (.iadd, 1) := by decide +kernel
theorem dX4_save_32 : decode cX4_save 32 = .ok (.aload_n 0, 1) := by decide +kernel
theorem dX4_save_33 : decode cX4_save 33 = .ok (.getfield 7, 3) := by decide +kernel
theorem dX4_save_36 : decode cX4_save 36 = .ok (.iload_n 2, 1) := by decide +kernel
theorem dX4_save_37 : decode cX4_save 37 = .ok (.iaload, 1) := by decide +kernel
theorem dX4_save_38 : decode cX4_save 38 = .ok (.iastore, 1) := by decide +kernel
theorem dX4_save_39 : decode cX4_save 39 = .ok (.iinc 2 1, 3) := by decide +kernel
theorem dX4_save_42 : decode cX4_save 42 = .ok (.goto (-28), 3) := by decide +kernel
theorem dX4_save_45 : decode cX4_save 45 = .ok (.aload_n 0, 1) := by decide +kernel
theorem dX4_save_46 : decode cX4_save 46 = .ok (.getfield 22, 3) := by decide +kernel
theorem dX4_save_49 : decode cX4_save 49 = .ok (.iload_n 1, 1) := by decide +kernel
theorem dX4_save_50 : decode cX4_save 50 = .ok (.iconst 1, 1) := by decide +kernel
theorem dX4_save_51 : decode cX4_save 51 = .ok (.bastore, 1) := by decide +kernel
theorem dX4_save_52 : decode cX4_save 52 = .ok (.aload_n 0, 1) := by decide +kernel
theorem dX4_save_53 : decode cX4_save 53 = .ok (.getfield 7, 3) := by decide +kernel
theorem dX4_save_56 : decode cX4_save 56 = .ok (.iconst 3, 1) := by decide +kernel
theorem dX4_save_57 : decode cX4_save 57 = .ok (.iaload, 1) := by decide +kernel
theorem dX4_save_58 : decode cX4_save 58 = .ok (.ireturn, 1) := by decide +kernel
theorem dX4_restore_0 : decode cX4_restore 0 = .ok (.iload_n 1, 1) := by decide +kernel
theorem dX4_restore_1 : decode cX4_restore 1 = .ok (.iconst 0, 1) := by decide +kernel
theorem dX4_restore_2 : decode cX4_restore 2 = .ok (.iconst 1, 1) := by decide +kernel
theorem dX4_restore_3 : decode cX4_restore 3 = .ok (.invokestatic 44, 3) := by decide +kernel
theorem dX4_restore_6 : decode cX4_restore 6 = .ok (.ifCond .ne 6, 3) := by decide +kernel
theorem dX4_restore_9 : decode cX4_restore 9 = .ok (.bipush (-2), 2) := by decide +kernel
theorem dX4_restore_11 : decode cX4_restore 11 = .ok (.ireturn, 1) := by decide +kernel
theorem dX4_restore_12 : decode cX4_restore 12 = .ok (.aload_n 0, 1) := by decide +kernel
theorem dX4_restore_13 : decode cX4_restore 13 = .ok (.getfield 22, 3) := by decide +kernel
theorem dX4_restore_16 : decode cX4_restore 16 = .ok (.iload_n 1, 1) := by decide +kernel
theorem dX4_restore_17 : decode cX4_restore 17 = .ok (.baload, 1) := by decide +kernel
theorem dX4_restore_18 : decode cX4_restore 18 = .ok (.ifCond .ne 6, 3) := by decide +kernel
theorem dX4_restore_21 : decode cX4_restore 21 = .ok (.bipush (-5), 2) := by decide +kernel
theorem dX4_restore_23 : decode cX4_restore 23 = .ok (.ireturn, 1) := by decide +kernel
theorem dX4_restore_24 : decode cX4_restore 24 = .ok (.aload_n 0, 1) := by decide +kernel
theorem dX4_restore_25 : decode cX4_restore 25 = .ok (.invokevirtual 78, 3) := by decide +kernel
theorem dX4_restore_28 : decode cX4_restore 28 = .ok (.iconst 0, 1) := by decide +kernel
theorem dX4_restore_29 : decode cX4_restore 29 = .ok (.istore_n 2, 1) := by decide +kernel
theorem dX4_restore_30 : decode cX4_restore 30 = .ok (.iload_n 2, 1) := by decide +kernel
theorem dX4_restore_31 : decode cX4_restore 31 = .ok (.sipush 345, 3) := by decide +kernel
theorem dX4_restore_34 : decode cX4_restore 34 = .ok (.if_icmp .ge 27, 3) := by decide +kernel
theorem dX4_restore_37 : decode cX4_restore 37 = .ok (.aload_n 0, 1) := by decide +kernel
theorem dX4_restore_38 : decode cX4_restore 38 = .ok (.getfield 7, 3) := by decide +kernel
theorem dX4_restore_41 : decode cX4_restore 41 = .ok (.iload_n 2, 1) := by decide +kernel
theorem dX4_restore_42 : decode cX4_restore 42 = .ok (.aload_n 0, 1) := by decide +kernel
theorem dX4_restore_43 : decode cX4_restore 43 = .ok (.getfield 19, 3) := by decide +kernel
theorem dX4_restore_46 : decode cX4_restore 46 = .ok (.sipush 345, 3) := by decide +kernel
theorem dX4_restore_49 : decode cX4_restore 49 = .ok (.iload_n 1, 1) := by decide +kernel
theorem dX4_restore_50 : decode cX4_restore 50 = .ok (.imul, 1) := by decide +kernel
theorem dX4_restore_51 : decode cX4_restore 51 = .ok (.iload_n 2, 1) := by decide +kernel
theorem dX4_restore_52 : decode cX4_restore 52 = .ok (.iadd, 1) := by decide +kernel
theorem dX4_restore_53 : decode cX4_restore 53 = .ok (.iaload, 1) := by decide +kernel
theorem dX4_restore_54 : decode cX4_restore 54 = .ok (.iastore, 1) := by decide +kernel
theorem dX4_restore_55 : decode cX4_restore 55 = .ok (.iinc 2 1, 3) := by decide +kernel
theorem dX4_restore_58 : decode cX4_restore 58 = .ok (.goto (-28), 3) := by decide +kernel
theorem dX4_restore_61 : decode cX4_restore 61 = .ok (.aload_n 0, 1) := by decide +kernel
theorem dX4_restore_62 : decode cX4_restore 62 = .ok (.getfield 7, 3) := by decide +kernel
theorem dX4_restore_65 : decode cX4_restore 65 = .ok (.iconst 3, 1) := by decide +kernel
theorem dX4_restore_66 : decode cX4_restore 66 = .ok (.iaload, 1) := by decide +kernel
theorem dX4_restore_67 : decode cX4_restore 67 = .ok (.ireturn, 1) := by decide +kernel
theorem ggX4_write_X4_readPad : GoodIn wsX4_write wsX4_readPad := goodIn_r _ [13, 14, 1, 4, 3, 5, 6, 7, 8, 15, 16, 17, 12, 18, 19, 20, 21, 22, 23, 24, 25, 26, 57, 58, 59, 60, 61, 62, 63, 64, 65, 66, 67, 68, 69, 70, 71, 72, 73, 74, 75, 76, 77] rfl (by decide +kernel)
theorem gX4_write_X4_readPad : GoodIn wsX4_write (wsV RX4 164 RX4 yX4_readPad wsX4_readPad) := goodIn_app (goodIn_r _ [9, 10, 11, 12] rfl (by decide +kernel)) ggX4_write_X4_readPad
theorem ggX4_write_X4_know : GoodIn wsX4_write wsX4_know := goodIn_r _ [30, 31, 32, 2, 57, 58, 59, 60, 61, 62, 63, 64, 65, 66, 67, 68, 69, 70, 71, 72, 73, 74, 75, 76, 77] rfl (by decide +kernel)
theorem gX4_write_X4_know : GoodIn wsX4_write (wsV RX4 78 RX4 yX4_know wsX4_know) := goodIn_app (goodIn_r _ [27, 28, 29, 12] rfl (by decide +kernel)) ggX4_write_X4_know
theorem ggX4_write_X4_react : GoodIn wsX4_write wsX4_react := goodIn_r _ [36, 2, 37, 38, 39, 12, 40, 41, 42, 43, 44, 45, 46, 47, 48, 49, 50, 51, 52, 53, 54, 55, 56, 57, 58, 59, 60, 61, 62, 63, 64, 65, 66, 67, 68, 69, 70, 71, 72, 73, 74, 75, 76, 77] rfl (by decide +kernel)
theorem gX4_write_X4_react : GoodIn wsX4_write (wsV RX4 85 RX4 yX4_react wsX4_react) := goodIn_app (goodIn_r _ [33, 34, 35, 12] rfl (by decide +kernel)) ggX4_write_X4_react
theorem ggX4_save_X4_in : GoodIn wsX4_save wsX4_in := goodIn_r _ [7] rfl (by decide +kernel)
theorem gX4_save_X4_in : GoodIn wsX4_save (va_wsS RX4 44 yX4_in wsX4_in) := goodIn_app (goodIn_r _ [4, 5, 6] rfl (by decide +kernel)) ggX4_save_X4_in
theorem ggX4_restore_X4_in : GoodIn wsX4_restore wsX4_in := goodIn_r _ [7] rfl (by decide +kernel)
theorem gX4_restore_X4_in : GoodIn wsX4_restore (va_wsS RX4 44 yX4_in wsX4_in) := goodIn_app (goodIn_r _ [4, 5, 6] rfl (by decide +kernel)) ggX4_restore_X4_in
theorem ggX4_restore_X4_know : GoodIn wsX4_restore wsX4_know := goodIn_r _ [11, 12, 13, 2, 14, 15, 16, 17, 18, 19, 20, 21, 22, 23, 24, 25, 26, 27, 28, 29, 30, 31, 32, 33, 34] rfl (by decide +kernel)
theorem gX4_restore_X4_know : GoodIn wsX4_restore (wsV RX4 78 RX4 yX4_know wsX4_know) := goodIn_app (goodIn_r _ [8, 9, 10, 6] rfl (by decide +kernel)) ggX4_restore_X4_know
