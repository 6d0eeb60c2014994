theorem d_Mo_covers_111 : decode b_Mo_covers 111 = .ok (.aload_n 0, 1) := by decide +kernel
theorem d_Mo_covers_112 : decode b_Mo_covers 112 = .ok (.getfield 25, 3) := by decide +kernel
theorem d_Mo_covers_115 : decode b_Mo_covers 115 = .ok (.iload_n 1, 1) := by decide +kernel
theorem d_Mo_covers_116 : decode b_Mo_covers 116 = .ok (.iaload, 1) := by decide +kernel
theorem d_Mo_covers_117 : decode b_Mo_covers 117 = .ok (.ineg, 1) := by decide +kernel
theorem d_Mo_covers_118 : decode b_Mo_covers 118 = .ok (.i2l, 1) := by decide +kernel
theorem d_Mo_covers_119 : decode b_Mo_covers 119 = .ok (.ldc2_w 100, 3) := by decide +kernel
theorem d_Mo_covers_122 : decode b_Mo_covers 122 = .ok (.lmul, 1) := by decide +kernel
theorem d_Mo_covers_123 : decode b_Mo_covers 123 = .ok (.lcmp, 1) := by decide +kernel
theorem d_Mo_covers_124 : decode b_Mo_covers 124 = .ok (.ifCond .lt 24, 3) := by decide +kernel
theorem d_Mo_covers_127 : decode b_Mo_covers 127 = .ok (.lload 14, 2) := by decide +kernel
theorem d_Mo_covers_129 : decode b_Mo_covers 129 = .ok (.aload_n 0, 1) := by decide +kernel
theorem d_Mo_covers_130 : decode b_Mo_covers 130 = .ok (.getfield 25, 3) := by decide +kernel
theorem d_Mo_covers_133 : decode b_Mo_covers 133 = .ok (.iload_n 1, 1) := by decide +kernel
theorem d_Mo_covers_134 : decode b_Mo_covers 134 = .ok (.iaload, 1) := by decide +kernel
theorem d_Mo_covers_135 : decode b_Mo_covers 135 = .ok (.i2l, 1) := by decide +kernel
theorem d_Mo_covers_136 : decode b_Mo_covers 136 = .ok (.ldc2_w 100, 3) := by decide +kernel
theorem d_Mo_covers_139 : decode b_Mo_covers 139 = .ok (.lmul, 1) := by decide +kernel
theorem d_Mo_covers_140 : decode b_Mo_covers 140 = .ok (.lcmp, 1) := by decide +kernel
theorem d_Mo_covers_141 : decode b_Mo_covers 141 = .ok (.ifCond .gt 7, 3) := by decide +kernel
theorem d_Mo_covers_144 : decode b_Mo_covers 144 = .ok (.iconst 1, 1) := by decide +kernel
theorem d_Mo_covers_145 : decode b_Mo_covers 145 = .ok (.goto 4, 3) := by decide +kernel
theorem d_Mo_covers_148 : decode b_Mo_covers 148 = .ok (.iconst 0, 1) := by decide +kernel
theorem d_Mo_covers_149 : decode b_Mo_covers 149 = .ok (.ireturn, 1) := by decide +kernel
theorem d_Mo_cellOf_0 : decode b_Mo_cellOf 0 = .ok (.iload_n 0, 1) := by decide +kernel
theorem d_Mo_cellOf_1 : decode b_Mo_cellOf 1 = .ok (.sipush 4096, 3) := by decide +kernel
theorem d_Mo_cellOf_4 : decode b_Mo_cellOf 4 = .ok (.invokestatic 102, 3) := by decide +kernel
theorem d_Mo_cellOf_7 : decode b_Mo_cellOf 7 = .ok (.istore_n 1, 1) := by decide +kernel
theorem d_Mo_cellOf_8 : decode b_Mo_cellOf 8 = .ok (.iload_n 1, 1) := by decide +kernel
theorem d_Mo_cellOf_9 : decode b_Mo_cellOf 9 = .ok (.bipush 8, 2) := by decide +kernel
theorem d_Mo_cellOf_11 : decode b_Mo_cellOf 11 = .ok (.invokestatic 102, 3) := by decide +kernel
theorem d_Mo_cellOf_14 : decode b_Mo_cellOf 14 = .ok (.ireturn, 1) := by decide +kernel
theorem d_Mo_down_0 : decode b_Mo_down 0 = .ok (.iload_n 0, 1) := by decide +kernel
theorem d_Mo_down_1 : decode b_Mo_down 1 = .ok (.iload_n 1, 1) := by decide +kernel
theorem d_Mo_down_2 : decode b_Mo_down 2 = .ok (.idiv, 1) := by decide +kernel
theorem d_Mo_down_3 : decode b_Mo_down 3 = .ok (.istore_n 2, 1) := by decide +kernel
theorem d_Mo_down_4 : decode b_Mo_down 4 = .ok (.iload_n 2, 1) := by decide +kernel
theorem d_Mo_down_5 : decode b_Mo_down 5 = .ok (.iload_n 1, 1) := by decide +kernel
theorem d_Mo_down_6 : decode b_Mo_down 6 = .ok (.imul, 1) := by decide +kernel
theorem d_Mo_down_7 : decode b_Mo_down 7 = .ok (.iload_n 0, 1) := by decide +kernel
theorem d_Mo_down_8 : decode b_Mo_down 8 = .ok (.if_icmp .le 9, 3) := by decide +kernel
theorem d_Mo_down_11 : decode b_Mo_down 11 = .ok (.iload_n 2, 1) := by decide +kernel
theorem d_Mo_down_12 : decode b_Mo_down 12 = .ok (.iconst 1, 1) := by decide +kernel
theorem d_Mo_down_13 : decode b_Mo_down 13 = .ok (.isub, 1) := by decide +kernel
theorem d_Mo_down_14 : decode b_Mo_down 14 = .ok (.goto 4, 3) := by decide +kernel
theorem d_Mo_down_17 : decode b_Mo_down 17 = .ok (.iload_n 2, 1) := by decide +kernel
theorem d_Mo_down_18 : decode b_Mo_down 18 = .ok (.ireturn, 1) := by decide +kernel
theorem d_Mo_within_0 : decode b_Mo_within 0 = .ok (.iload_n 0, 1) := by decide +kernel
theorem d_Mo_within_1 : decode b_Mo_within 1 = .ok (.bipush (-32), 2) := by decide +kernel
theorem d_Mo_within_3 : decode b_Mo_within 3 = .ok (.if_icmp .ge 8, 3) := by decide +kernel
theorem d_Mo_within_6 : decode b_Mo_within 6 = .ok (.bipush (-32), 2) := by decide +kernel
theorem d_Mo_within_8 : decode b_Mo_within 8 = .ok (.goto 15, 3) := by decide +kernel
theorem d_Mo_within_11 : decode b_Mo_within 11 = .ok (.iload_n 0, 1) := by decide +kernel
theorem d_Mo_within_12 : decode b_Mo_within 12 = .ok (.bipush 31, 2) := by decide +kernel
theorem d_Mo_within_14 : decode b_Mo_within 14 = .ok (.if_icmp .le 8, 3) := by decide +kernel
theorem d_Mo_within_17 : decode b_Mo_within 17 = .ok (.bipush 31, 2) := by decide +kernel
theorem d_Mo_within_19 : decode b_Mo_within 19 = .ok (.goto 4, 3) := by decide +kernel
theorem d_Mo_within_22 : decode b_Mo_within 22 = .ok (.iload_n 0, 1) := by decide +kernel
theorem d_Mo_within_23 : decode b_Mo_within 23 = .ok (.ireturn, 1) := by decide +kernel
theorem d_Mo_look_0 : decode b_Mo_look 0 = .ok (.iconst 0, 1) := by decide +kernel
theorem d_Mo_look_1 : decode b_Mo_look 1 = .ok (.istore_n 1, 1) := by decide +kernel
theorem d_Mo_look_2 : decode b_Mo_look 2 = .ok (.iload_n 1, 1) := by decide +kernel
theorem d_Mo_look_3 : decode b_Mo_look 3 = .ok (.aload_n 0, 1) := by decide +kernel
theorem d_Mo_look_4 : decode b_Mo_look 4 = .ok (.getfield 84, 3) := by decide +kernel
theorem d_Mo_look_7 : decode b_Mo_look 7 = .ok (.if_icmp .ge 256, 3) := by decide +kernel
theorem d_Mo_look_10 : decode b_Mo_look 10 = .ok (.aload_n 0, 1) := by decide +kernel
theorem d_Mo_look_11 : decode b_Mo_look 11 = .ok (.getfield 51, 3) := by decide +kernel
theorem d_Mo_look_14 : decode b_Mo_look 14 = .ok (.iload_n 1, 1) := by decide +kernel
theorem d_Mo_look_15 : decode b_Mo_look 15 = .ok (.iaload, 1) := by decide +kernel
theorem d_Mo_look_16 : decode b_Mo_look 16 = .ok (.invokestatic 106, 3) := by decide +kernel
theorem d_Mo_look_19 : decode b_Mo_look 19 = .ok (.bipush 10, 2) := by decide +kernel
theorem d_Mo_look_21 : decode b_Mo_look 21 = .ok (.isub, 1) := by decide +kernel
theorem d_Mo_look_22 : decode b_Mo_look 22 = .ok (.invokestatic 109, 3) := by decide +kernel
theorem d_Mo_look_25 : decode b_Mo_look 25 = .ok (.istore_n 2, 1) := by decide +kernel
theorem d_Mo_look_26 : decode b_Mo_look 26 = .ok (.aload_n 0, 1) := by decide +kernel
theorem d_Mo_look_27 : decode b_Mo_look 27 = .ok (.getfield 51, 3) := by decide +kernel
theorem d_Mo_look_30 : decode b_Mo_look 30 = .ok (.iload_n 1, 1) := by decide +kernel
theorem d_Mo_look_31 : decode b_Mo_look 31 = .ok (.iaload, 1) := by decide +kernel
theorem d_Mo_look_32 : decode b_Mo_look 32 = .ok (.invokestatic 106, 3) := by decide +kernel
theorem d_Mo_look_35 : decode b_Mo_look 35 = .ok (.bipush 10, 2) := by decide +kernel
theorem d_Mo_look_37 : decode b_Mo_look 37 = .ok (.iadd, 1) := by decide +kernel
theorem d_Mo_look_38 : decode b_Mo_look 38 = .ok (.invokestatic 109, 3) := by decide +kernel
theorem d_Mo_look_41 : decode b_Mo_look 41 = .ok (.istore_n 3, 1) := by decide +kernel
theorem d_Mo_look_42 : decode b_Mo_look 42 = .ok (.aload_n 0, 1) := by decide +kernel
theorem d_Mo_look_43 : decode b_Mo_look 43 = .ok (.getfield 54, 3) := by decide +kernel
theorem d_Mo_look_46 : decode b_Mo_look 46 = .ok (.iload_n 1, 1) := by decide +kernel
theorem d_Mo_look_47 : decode b_Mo_look 47 = .ok (.iaload, 1) := by decide +kernel
theorem d_Mo_look_48 : decode b_Mo_look 48 = .ok (.invokestatic 106, 3) := by decide +kernel
theorem d_Mo_look_51 : decode b_Mo_look 51 = .ok (.bipush 10, 2) := by decide +kernel
theorem d_Mo_look_53 : decode b_Mo_look 53 = .ok (.isub, 1) := by decide +kernel
theorem d_Mo_look_54 : decode b_Mo_look 54 = .ok (.invokestatic 109, 3) := by decide +kernel
theorem d_Mo_look_57 : decode b_Mo_look 57 = .ok (.istore 4, 2) := by decide +kernel
theorem d_Mo_look_59 : decode b_Mo_look 59 = .ok (.aload_n 0, 1) := by decide +kernel
theorem d_Mo_look_60 : decode b_Mo_look 60 = .ok (.getfield 54, 3) := by decide +kernel
theorem d_Mo_look_63 : decode b_Mo_look 63 = .ok (.iload_n 1, 1) := by decide +kernel
theorem d_Mo_look_64 : decode b_Mo_look 64 = .ok (.iaload, 1) := by decide +kernel
theorem d_Mo_look_65 : decode b_Mo_look 65 = .ok (.invokestatic 106, 3) := by decide +kernel
theorem d_Mo_look_68 : decode b_Mo_look 68 = .ok (.bipush 10, 2) := by decide +kernel
theorem d_Mo_look_70 : decode b_Mo_look 70 = .ok (.iadd, 1) := by decide +kernel
theorem d_Mo_look_71 : decode b_Mo_look 71 = .ok (.invokestatic 109, 3) := by decide +kernel
theorem d_Mo_look_74 : decode b_Mo_look 74 = .ok (.istore 5, 2) := by decide +kernel
theorem d_Mo_look_76 : decode b_Mo_look 76 = .ok (.iload_n 2, 1) := by decide +kernel
theorem d_Mo_look_77 : decode b_Mo_look 77 = .ok (.istore 6, 2) := by decide +kernel
theorem d_Mo_look_79 : decode b_Mo_look 79 = .ok (.iload 6, 2) := by decide +kernel
theorem d_Mo_look_81 : decode b_Mo_look 81 = .ok (.iload_n 3, 1) := by decide +kernel
theorem d_Mo_look_82 : decode b_Mo_look 82 = .ok (.if_icmp .gt 100, 3) := by decide +kernel
theorem d_Mo_look_85 : decode b_Mo_look 85 = .ok (.iload 4, 2) := by decide +kernel
theorem d_Mo_look_87 : decode b_Mo_look 87 = .ok (.istore 7, 2) := by decide +kernel
theorem d_Mo_look_89 : decode b_Mo_look 89 = .ok (.iload 7, 2) := by decide +kernel
theorem d_Mo_look_91 : decode b_Mo_look 91 = .ok (.iload 5, 2) := by decide +kernel
theorem d_Mo_look_93 : decode b_Mo_look 93 = .ok (.if_icmp .gt 83, 3) := by decide +kernel
theorem d_Mo_look_96 : decode b_Mo_look 96 = .ok (.bipush 64, 2) := by decide +kernel
theorem d_Mo_look_98 : decode b_Mo_look 98 = .ok (.iload 6, 2) := by decide +kernel
theorem d_Mo_look_100 : decode b_Mo_look 100 = .ok (.bipush 32, 2) := by decide +kernel
theorem d_Mo_look_102 : decode b_Mo_look 102 = .ok (.iadd, 1) := by decide +kernel
theorem d_Mo_look_103 : decode b_Mo_look 103 = .ok (.imul, 1) := by decide +kernel
theorem d_Mo_look_104 : decode b_Mo_look 104 = .ok (.iload 7, 2) := by decide +kernel
theorem d_Mo_look_106 : decode b_Mo_look 106 = .ok (.iadd, 1) := by decide +kernel
theorem d_Mo_look_107 : decode b_Mo_look 107 = .ok (.bipush 32, 2) := by decide +kernel
theorem d_Mo_look_109 : decode b_Mo_look 109 = .ok (.iadd, 1) := by decide +kernel
theorem d_Mo_look_110 : decode b_Mo_look 110 = .ok (.istore 8, 2) := by decide +kernel
theorem d_Mo_look_112 : decode b_Mo_look 112 = .ok (.aload_n 0, 1) := by decide +kernel
theorem d_Mo_look_113 : decode b_Mo_look 113 = .ok (.getfield 75, 3) := by decide +kernel
theorem d_Mo_look_116 : decode b_Mo_look 116 = .ok (.iload 8, 2) := by decide +kernel
theorem d_Mo_look_118 : decode b_Mo_look 118 = .ok (.baload, 1) := by decide +kernel
theorem d_Mo_look_119 : decode b_Mo_look 119 = .ok (.ifCond .ne 51, 3) := by decide +kernel
theorem d_Mo_look_122 : decode b_Mo_look 122 = .ok (.aload_n 0, 1) := by decide +kernel
theorem d_Mo_look_123 : decode b_Mo_look 123 = .ok (.iload_n 1, 1) := by decide +kernel
theorem d_Mo_look_124 : decode b_Mo_look 124 = .ok (.sipush 4096, 3) := by decide +kernel
theorem d_Mo_look_127 : decode b_Mo_look 127 = .ok (.bipush 8, 2) := by decide +kernel
theorem d_Mo_look_129 : decode b_Mo_look 129 = .ok (.iload 6, 2) := by decide +kernel
theorem d_Mo_look_131 : decode b_Mo_look 131 = .ok (.imul, 1) := by decide +kernel
theorem d_Mo_look_132 : decode b_Mo_look 132 = .ok (.iconst 4, 1) := by decide +kernel
theorem d_Mo_look_133 : decode b_Mo_look 133 = .ok (.iadd, 1) := by decide +kernel
theorem d_Mo_look_134 : decode b_Mo_look 134 = .ok (.imul, 1) := by decide +kernel
theorem d_Mo_look_135 : decode b_Mo_look 135 = .ok (.sipush 4096, 3) := by decide +kernel
theorem d_Mo_look_138 : decode b_Mo_look 138 = .ok (.bipush 8, 2) := by decide +kernel
theorem d_Mo_look_140 : decode b_Mo_look 140 = .ok (.iload 7, 2) := by decide +kernel
theorem d_Mo_look_142 : decode b_Mo_look 142 = .ok (.imul, 1) := by decide +kernel
theorem d_Mo_look_143 : decode b_Mo_look 143 = .ok (.iconst 4, 1) := by decide +kernel
theorem d_Mo_look_144 : decode b_Mo_look 144 = .ok (.iadd, 1) := by decide +kernel
theorem d_Mo_look_145 : decode b_Mo_look 145 = .ok (.imul, 1) := by decide +kernel
theorem d_Mo_look_146 : decode b_Mo_look 146 = .ok (.invokevirtual 112, 3) := by decide +kernel
theorem d_Mo_look_149 : decode b_Mo_look 149 = .ok (.ifCond .eq 21, 3) := by decide +kernel
theorem d_Mo_look_152 : decode b_Mo_look 152 = .ok (.aload_n 0, 1) := by decide +kernel
theorem d_Mo_look_153 : decode b_Mo_look 153 = .ok (.getfield 75, 3) := by decide +kernel
theorem d_Mo_look_156 : decode b_Mo_look 156 = .ok (.iload 8, 2) := by decide +kernel
theorem d_Mo_look_158 : decode b_Mo_look 158 = .ok (.iconst 1, 1) := by decide +kernel
theorem d_Mo_look_159 : decode b_Mo_look 159 = .ok (.bastore, 1) := by decide +kernel
theorem d_Mo_look_160 : decode b_Mo_look 160 = .ok (.aload_n 0, 1) := by decide +kernel
theorem d_Mo_look_161 : decode b_Mo_look 161 = .ok (.dup, 1) := by decide +kernel
theorem d_Mo_look_162 : decode b_Mo_look 162 = .ok (.getfield 116, 3) := by decide +kernel
theorem d_Mo_look_165 : decode b_Mo_look 165 = .ok (.iconst 1, 1) := by decide +kernel
theorem d_Mo_look_166 : decode b_Mo_look 166 = .ok (.iadd, 1) := by decide +kernel
theorem d_Mo_look_167 : decode b_Mo_look 167 = .ok (.putfield 116, 3) := by decide +kernel
theorem d_Mo_look_170 : decode b_Mo_look 170 = .ok (.iinc 7 1, 3) := by decide +kernel
theorem d_Mo_look_173 : decode b_Mo_look 173 = .ok (.goto (-84), 3) := by decide +kernel
theorem d_Mo_look_176 : decode b_Mo_look 176 = .ok (.iinc 6 1, 3) := by decide +kernel
theorem d_Mo_look_179 : decode b_Mo_look 179 = .ok (.goto (-100), 3) := by decide +kernel
theorem d_Mo_look_182 : decode b_Mo_look 182 = .ok (.iconst 0, 1) := by decide +kernel
theorem d_Mo_look_183 : decode b_Mo_look 183 = .ok (.istore 6, 2) := by decide +kernel
theorem d_Mo_look_185 : decode b_Mo_look 185 = .ok (.iload 6, 2) := by decide +kernel
theorem d_Mo_look_187 : decode b_Mo_look 187 = .ok (.aload_n 0, 1) := by decide +kernel
theorem d_Mo_look_188 : decode b_Mo_look 188 = .ok (.getfield 119, 3) := by decide +kernel
theorem d_Mo_look_191 : decode b_Mo_look 191 = .ok (.if_icmp .ge 66, 3) := by decide +kernel
theorem d_Mo_look_194 : decode b_Mo_look 194 = .ok (.aload_n 0, 1) := by decide +kernel
theorem d_Mo_look_195 : decode b_Mo_look 195 = .ok (.getfield 66, 3) := by decide +kernel
theorem d_Mo_look_198 : decode b_Mo_look 198 = .ok (.iconst (-1), 1) := by decide +kernel
theorem d_Mo_look_199 : decode b_Mo_look 199 = .ok (.if_icmp .ne 58, 3) := by decide +kernel
theorem d_Mo_look_202 : decode b_Mo_look 202 = .ok (.aload_n 0, 1) := by decide +kernel
theorem d_Mo_look_203 : decode b_Mo_look 203 = .ok (.iload_n 1, 1) := by decide +kernel
theorem d_Mo_look_204 : decode b_Mo_look 204 = .ok (.sipush 4096, 3) := by decide +kernel
theorem d_Mo_look_207 : decode b_Mo_look 207 = .ok (.aload_n 0, 1) := by decide +kernel
theorem d_Mo_look_208 : decode b_Mo_look 208 = .ok (.getfield 32, 3) := by decide +kernel
theorem d_Mo_look_211 : decode b_Mo_look 211 = .ok (.iload 6, 2) := by decide +kernel
theorem d_Mo_look_213 : decode b_Mo_look 213 = .ok (.iaload, 1) := by decide +kernel
theorem d_Mo_look_214 : decode b_Mo_look 214 = .ok (.imul, 1) := by decide +kernel
theorem d_Mo_look_215 : decode b_Mo_look 215 = .ok (.sipush 4096, 3) := by decide +kernel
theorem d_Mo_look_218 : decode b_Mo_look 218 = .ok (.aload_n 0, 1) := by decide +kernel
theorem d_Mo_look_219 : decode b_Mo_look 219 = .ok (.getfield 35, 3) := by decide +kernel
theorem d_Mo_look_222 : decode b_Mo_look 222 = .ok (.iload 6, 2) := by decide +kernel
theorem d_Mo_look_224 : decode b_Mo_look 224 = .ok (.iaload, 1) := by decide +kernel
theorem d_Mo_look_225 : decode b_Mo_look 225 = .ok (.imul, 1) := by decide +kernel
theorem d_Mo_look_226 : decode b_Mo_look 226 = .ok (.invokevirtual 112, 3) := by decide +kernel
theorem d_Mo_look_229 : decode b_Mo_look 229 = .ok (.ifCond .eq 22, 3) := by decide +kernel
theorem d_Mo_look_232 : decode b_Mo_look 232 = .ok (.aload_n 0, 1) := by decide +kernel
theorem d_Mo_look_233 : decode b_Mo_look 233 = .ok (.aload_n 0, 1) := by decide +kernel
theorem d_Mo_look_234 : decode b_Mo_look 234 = .ok (.getfield 122, 3) := by decide +kernel
theorem d_Mo_look_237 : decode b_Mo_look 237 = .ok (.putfield 66, 3) := by decide +kernel
theorem d_Mo_look_240 : decode b_Mo_look 240 = .ok (.aload_n 0, 1) := by decide +kernel
theorem d_Mo_look_241 : decode b_Mo_look 241 = .ok (.iload_n 1, 1) := by decide +kernel
theorem d_Mo_look_242 : decode b_Mo_look 242 = .ok (.putfield 69, 3) := by decide +kernel
theorem d_Mo_look_245 : decode b_Mo_look 245 = .ok (.aload_n 0, 1) := by decide +kernel
theorem d_Mo_look_246 : decode b_Mo_look 246 = .ok (.iload 6, 2) := by decide +kernel
theorem d_Mo_look_248 : decode b_Mo_look 248 = .ok (.putfield 72, 3) := by decide +kernel
theorem d_Mo_look_251 : decode b_Mo_look 251 = .ok (.iinc 6 1, 3) := by decide +kernel
theorem d_Mo_look_254 : decode b_Mo_look 254 = .ok (.goto (-69), 3) := by decide +kernel
theorem d_Mo_look_257 : decode b_Mo_look 257 = .ok (.iinc 1 1, 3) := by decide +kernel
theorem d_Mo_look_260 : decode b_Mo_look 260 = .ok (.goto (-258), 3) := by decide +kernel
theorem d_Mo_look_263 : decode b_Mo_look 263 = .ok (.return_, 1) := by decide +kernel
theorem d_Mo_beginAnew_0 : decode b_Mo_beginAnew 0 = .ok (.aload_n 0, 1) := by decide +kernel
theorem d_Mo_beginAnew_1 : decode b_Mo_beginAnew 1 = .ok (.iconst 0, 1) := by decide +kernel
theorem d_Mo_beginAnew_2 : decode b_Mo_beginAnew 2 = .ok (.putfield 122, 3) := by decide +kernel
theorem d_Mo_beginAnew_5 : decode b_Mo_beginAnew 5 = .ok (.aload_n 0, 1) := by decide +kernel
theorem d_Mo_beginAnew_6 : decode b_Mo_beginAnew 6 = .ok (.iconst 0, 1) := by decide +kernel
theorem d_Mo_beginAnew_7 : decode b_Mo_beginAnew 7 = .ok (.putfield 125, 3) := by decide +kernel
theorem d_Mo_beginAnew_10 : decode b_Mo_beginAnew 10 = .ok (.aload_n 0, 1) := by decide +kernel
theorem d_Mo_beginAnew_11 : decode b_Mo_beginAnew 11 = .ok (.iconst (-1), 1) := by decide +kernel
theorem d_Mo_beginAnew_12 : decode b_Mo_beginAnew 12 = .ok (.putfield 66, 3) := by decide +kernel
theorem d_Mo_beginAnew_15 : decode b_Mo_beginAnew 15 = .ok (.aload_n 0, 1) := by decide +kernel
theorem d_Mo_beginAnew_16 : decode b_Mo_beginAnew 16 = .ok (.iconst (-1), 1) := by decide +kernel
theorem d_Mo_beginAnew_17 : decode b_Mo_beginAnew 17 = .ok (.putfield 69, 3) := by decide +kernel
theorem d_Mo_beginAnew_20 : decode b_Mo_beginAnew 20 = .ok (.aload_n 0, 1) := by decide +kernel
theorem d_Mo_beginAnew_21 : decode b_Mo_beginAnew 21 = .ok (.iconst (-1), 1) := by decide +kernel
theorem d_Mo_beginAnew_22 : decode b_Mo_beginAnew 22 = .ok (.putfield 72, 3) := by decide +kernel
theorem d_Mo_beginAnew_25 : decode b_Mo_beginAnew 25 = .ok (.aload_n 0, 1) := by decide +kernel
theorem d_Mo_beginAnew_26 : decode b_Mo_beginAnew 26 = .ok (.iconst 0, 1) := by decide +kernel
theorem d_Mo_beginAnew_27 : decode b_Mo_beginAnew 27 = .ok (.putfield 116, 3) := by decide +kernel
theorem d_Mo_beginAnew_30 : decode b_Mo_beginAnew 30 = .ok (.iconst 0, 1) := by decide +kernel
theorem d_Mo_beginAnew_31 : decode b_Mo_beginAnew 31 = .ok (.istore_n 1, 1) := by decide +kernel
theorem d_Mo_beginAnew_32 : decode b_Mo_beginAnew 32 = .ok (.iload_n 1, 1) := by decide +kernel
theorem d_Mo_beginAnew_33 : decode b_Mo_beginAnew 33 = .ok (.sipush 4096, 3) := by decide +kernel
theorem d_Mo_beginAnew_36 : decode b_Mo_beginAnew 36 = .ok (.if_icmp .ge 16, 3) := by decide +kernel
theorem d_Mo_beginAnew_39 : decode b_Mo_beginAnew 39 = .ok (.aload_n 0, 1) := by decide +kernel
theorem d_Mo_beginAnew_40 : decode b_Mo_beginAnew 40 = .ok (.getfield 75, 3) := by decide +kernel
theorem d_Mo_beginAnew_43 : decode b_Mo_beginAnew 43 = .ok (.iload_n 1, 1) := by decide +kernel
theorem d_Mo_beginAnew_44 : decode b_Mo_beginAnew 44 = .ok (.iconst 0, 1) := by decide +kernel
theorem d_Mo_beginAnew_45 : decode b_Mo_beginAnew 45 = .ok (.bastore, 1) := by decide +kernel
theorem d_Mo_beginAnew_46 : decode b_Mo_beginAnew 46 = .ok (.iinc 1 1, 3) := by decide +kernel
theorem d_Mo_beginAnew_49 : decode b_Mo_beginAnew 49 = .ok (.goto (-17), 3) := by decide +kernel
theorem d_Mo_beginAnew_52 : decode b_Mo_beginAnew 52 = .ok (.aload_n 0, 1) := by decide +kernel
theorem d_Mo_beginAnew_53 : decode b_Mo_beginAnew 53 = .ok (.getfield 51, 3) := by decide +kernel
theorem d_Mo_beginAnew_56 : decode b_Mo_beginAnew 56 = .ok (.iconst 0, 1) := by decide +kernel
theorem d_Mo_beginAnew_57 : decode b_Mo_beginAnew 57 = .ok (.sipush 4096, 3) := by decide +kernel
theorem d_Mo_beginAnew_60 : decode b_Mo_beginAnew 60 = .ok (.aload_n 0, 1) := by decide +kernel
theorem d_Mo_beginAnew_61 : decode b_Mo_beginAnew 61 = .ok (.getfield 129, 3) := by decide +kernel
theorem d_Mo_beginAnew_64 : decode b_Mo_beginAnew 64 = .ok (.imul, 1) := by decide +kernel
theorem d_Mo_beginAnew_65 : decode b_Mo_beginAnew 65 = .ok (.iastore, 1) := by decide +kernel
theorem d_Mo_beginAnew_66 : decode b_Mo_beginAnew 66 = .ok (.aload_n 0, 1) := by decide +kernel
theorem d_Mo_beginAnew_67 : decode b_Mo_beginAnew 67 = .ok (.getfield 54, 3) := by decide +kernel
theorem d_Mo_beginAnew_70 : decode b_Mo_beginAnew 70 = .ok (.iconst 0, 1) := by decide +kernel
theorem d_Mo_beginAnew_71 : decode b_Mo_beginAnew 71 = .ok (.sipush 4096, 3) := by decide +kernel
theorem d_Mo_beginAnew_74 : decode b_Mo_beginAnew 74 = .ok (.aload_n 0, 1) := by decide +kernel
theorem d_Mo_beginAnew_75 : decode b_Mo_beginAnew 75 = .ok (.getfield 132, 3) := by decide +kernel
theorem d_Mo_beginAnew_78 : decode b_Mo_beginAnew 78 = .ok (.imul, 1) := by decide +kernel
theorem d_Mo_beginAnew_79 : decode b_Mo_beginAnew 79 = .ok (.iastore, 1) := by decide +kernel
theorem d_Mo_beginAnew_80 : decode b_Mo_beginAnew 80 = .ok (.iconst 0, 1) := by decide +kernel
theorem d_Mo_beginAnew_81 : decode b_Mo_beginAnew 81 = .ok (.istore_n 1, 1) := by decide +kernel
theorem d_Mo_beginAnew_82 : decode b_Mo_beginAnew 82 = .ok (.iload_n 1, 1) := by decide +kernel
theorem d_Mo_beginAnew_83 : decode b_Mo_beginAnew 83 = .ok (.iconst 3, 1) := by decide +kernel
theorem d_Mo_beginAnew_84 : decode b_Mo_beginAnew 84 = .ok (.if_icmp .ge 50, 3) := by decide +kernel
theorem d_Mo_beginAnew_87 : decode b_Mo_beginAnew 87 = .ok (.aload_n 0, 1) := by decide +kernel
theorem d_Mo_beginAnew_88 : decode b_Mo_beginAnew 88 = .ok (.getfield 57, 3) := by decide +kernel
theorem d_Mo_beginAnew_91 : decode b_Mo_beginAnew 91 = .ok (.iload_n 1, 1) := by decide +kernel
theorem d_Mo_beginAnew_92 : decode b_Mo_beginAnew 92 = .ok (.aload_n 0, 1) := by decide +kernel
theorem d_Mo_beginAnew_93 : decode b_Mo_beginAnew 93 = .ok (.getfield 135, 3) := by decide +kernel
theorem d_Mo_beginAnew_96 : decode b_Mo_beginAnew 96 = .ok (.iastore, 1) := by decide +kernel
theorem d_Mo_beginAnew_97 : decode b_Mo_beginAnew 97 = .ok (.aload_n 0, 1) := by decide +kernel
theorem d_Mo_beginAnew_98 : decode b_Mo_beginAnew 98 = .ok (.getfield 60, 3) := by decide +kernel
theorem d_Mo_beginAnew_101 : decode b_Mo_beginAnew 101 = .ok (.iload_n 1, 1) := by decide +kernel
theorem d_Mo_beginAnew_102 : decode b_Mo_beginAnew 102 = .ok (.iconst 0, 1) := by decide +kernel
theorem d_Mo_beginAnew_103 : decode b_Mo_beginAnew 103 = .ok (.iastore, 1) := by decide +kernel
theorem d_Mo_beginAnew_104 : decode b_Mo_beginAnew 104 = .ok (.aload_n 0, 1) := by decide +kernel
theorem d_Mo_beginAnew_105 : decode b_Mo_beginAnew 105 = .ok (.getfield 63, 3) := by decide +kernel
theorem d_Mo_beginAnew_108 : decode b_Mo_beginAnew 108 = .ok (.iload_n 1, 1) := by decide +kernel
theorem d_Mo_beginAnew_109 : decode b_Mo_beginAnew 109 = .ok (.iconst 0, 1) := by decide +kernel
theorem d_Mo_beginAnew_110 : decode b_Mo_beginAnew 110 = .ok (.iastore, 1) := by decide +kernel
theorem d_Mo_beginAnew_111 : decode b_Mo_beginAnew 111 = .ok (.iload_n 1, 1) := by decide +kernel
theorem d_Mo_beginAnew_112 : decode b_Mo_beginAnew 112 = .ok (.ifCond .le 16, 3) := by decide +kernel
theorem d_Mo_beginAnew_115 : decode b_Mo_beginAnew 115 = .ok (.iload_n 1, 1) := by decide +kernel
theorem d_Mo_beginAnew_116 : decode b_Mo_beginAnew 116 = .ok (.aload_n 0, 1) := by decide +kernel
theorem d_Mo_beginAnew_117 : decode b_Mo_beginAnew 117 = .ok (.getfield 84, 3) := by decide +kernel
theorem d_Mo_beginAnew_120 : decode b_Mo_beginAnew 120 = .ok (.if_icmp .ge 8, 3) := by decide +kernel
theorem d_Mo_beginAnew_123 : decode b_Mo_beginAnew 123 = .ok (.aload_n 0, 1) := by decide +kernel
theorem d_Mo_beginAnew_124 : decode b_Mo_beginAnew 124 = .ok (.iload_n 1, 1) := by decide +kernel
theorem d_Mo_beginAnew_125 : decode b_Mo_beginAnew 125 = .ok (.invokevirtual 138, 3) := by decide +kernel
theorem d_Mo_beginAnew_128 : decode b_Mo_beginAnew 128 = .ok (.iinc 1 1, 3) := by decide +kernel
theorem d_Mo_beginAnew_131 : decode b_Mo_beginAnew 131 = .ok (.goto (-49), 3) := by decide +kernel
theorem d_Mo_beginAnew_134 : decode b_Mo_beginAnew 134 = .ok (.aload_n 0, 1) := by decide +kernel
theorem d_Mo_beginAnew_135 : decode b_Mo_beginAnew 135 = .ok (.invokevirtual 142, 3) := by decide +kernel
theorem d_Mo_beginAnew_138 : decode b_Mo_beginAnew 138 = .ok (.return_, 1) := by decide +kernel
theorem d_Mo_move_0 : decode b_Mo_move 0 = .ok (.iload_n 2, 1) := by decide +kernel
theorem d_Mo_move_1 : decode b_Mo_move 1 = .ok (.ifCond .eq 7, 3) := by decide +kernel
theorem d_Mo_move_4 : decode b_Mo_move 4 = .ok (.iconst 1, 1) := by decide +kernel
theorem d_Mo_move_5 : decode b_Mo_move 5 = .ok (.goto 4, 3) := by decide +kernel
theorem d_Mo_move_8 : decode b_Mo_move 8 = .ok (.iconst (-1), 1) := by decide +kernel
theorem d_Mo_move_9 : decode b_Mo_move 9 = .ok (.istore_n 3, 1) := by decide +kernel
theorem d_Mo_move_10 : decode b_Mo_move 10 = .ok (.aload_n 0, 1) := by decide +kernel
theorem d_Mo_move_11 : decode b_Mo_move 11 = .ok (.getfield 51, 3) := by decide +kernel
theorem d_Mo_move_14 : decode b_Mo_move 14 = .ok (.iconst 0, 1) := by decide +kernel
theorem d_Mo_move_15 : decode b_Mo_move 15 = .ok (.aload_n 0, 1) := by decide +kernel
theorem d_Mo_move_16 : decode b_Mo_move 16 = .ok (.getfield 51, 3) := by decide +kernel
theorem d_Mo_move_19 : decode b_Mo_move 19 = .ok (.iconst 0, 1) := by decide +kernel
theorem d_Mo_move_20 : decode b_Mo_move 20 = .ok (.iaload, 1) := by decide +kernel
theorem d_Mo_move_21 : decode b_Mo_move 21 = .ok (.iload_n 3, 1) := by decide +kernel
theorem d_Mo_move_22 : decode b_Mo_move 22 = .ok (.aload_n 0, 1) := by decide +kernel
theorem d_Mo_move_23 : decode b_Mo_move 23 = .ok (.getfield 28, 3) := by decide +kernel
theorem d_Mo_move_26 : decode b_Mo_move 26 = .ok (.imul, 1) := by decide +kernel
theorem d_Mo_move_27 : decode b_Mo_move 27 = .ok (.aload_n 0, 1) := by decide +kernel
theorem d_Mo_move_28 : decode b_Mo_move 28 = .ok (.aload_n 0, 1) := by decide +kernel
theorem d_Mo_move_29 : decode b_Mo_move 29 = .ok (.getfield 57, 3) := by decide +kernel
theorem d_Mo_move_32 : decode b_Mo_move 32 = .ok (.iconst 0, 1) := by decide +kernel
theorem d_Mo_move_33 : decode b_Mo_move 33 = .ok (.iaload, 1) := by decide +kernel
theorem d_Mo_move_34 : decode b_Mo_move 34 = .ok (.invokevirtual 90, 3) := by decide +kernel
theorem d_Mo_move_37 : decode b_Mo_move 37 = .ok (.imul, 1) := by decide +kernel
theorem d_Mo_move_38 : decode b_Mo_move 38 = .ok (.iadd, 1) := by decide +kernel
theorem d_Mo_move_39 : decode b_Mo_move 39 = .ok (.iastore, 1) := by decide +kernel
theorem d_Mo_move_40 : decode b_Mo_move 40 = .ok (.aload_n 0, 1) := by decide +kernel
theorem d_Mo_move_41 : decode b_Mo_move 41 = .ok (.getfield 54, 3) := by decide +kernel
theorem d_Mo_move_44 : decode b_Mo_move 44 = .ok (.iconst 0, 1) := by decide +kernel
theorem d_Mo_move_45 : decode b_Mo_move 45 = .ok (.aload_n 0, 1) := by decide +kernel
theorem d_Mo_move_46 : decode b_Mo_move 46 = .ok (.getfield 54, 3) := by decide +kernel
theorem d_Mo_move_49 : decode b_Mo_move 49 = .ok (.iconst 0, 1) := by decide +kernel
theorem d_Mo_move_50 : decode b_Mo_move 50 = .ok (.iaload, 1) := by decide +kernel
theorem d_Mo_move_51 : decode b_Mo_move 51 = .ok (.iload_n 3, 1) := by decide +kernel
theorem d_Mo_move_52 : decode b_Mo_move 52 = .ok (.aload_n 0, 1) := by decide +kernel
theorem d_Mo_move_53 : decode b_Mo_move 53 = .ok (.getfield 28, 3) := by decide +kernel
theorem d_Mo_move_56 : decode b_Mo_move 56 = .ok (.imul, 1) := by decide +kernel
theorem d_Mo_move_57 : decode b_Mo_move 57 = .ok (.aload_n 0, 1) := by decide +kernel
theorem d_Mo_move_58 : decode b_Mo_move 58 = .ok (.aload_n 0, 1) := by decide +kernel
theorem d_Mo_move_59 : decode b_Mo_move 59 = .ok (.getfield 57, 3) := by decide +kernel
theorem d_Mo_move_62 : decode b_Mo_move 62 = .ok (.iconst 0, 1) := by decide +kernel
theorem d_Mo_move_63 : decode b_Mo_move 63 = .ok (.iaload, 1) := by decide +kernel
theorem d_Mo_move_64 : decode b_Mo_move 64 = .ok (.invokevirtual 97, 3) := by decide +kernel
theorem d_Mo_move_67 : decode b_Mo_move 67 = .ok (.imul, 1) := by decide +kernel
theorem d_Mo_move_68 : decode b_Mo_move 68 = .ok (.iadd, 1) := by decide +kernel
theorem d_Mo_move_69 : decode b_Mo_move 69 = .ok (.iastore, 1) := by decide +kernel
theorem d_Mo_move_70 : decode b_Mo_move 70 = .ok (.aload_n 0, 1) := by decide +kernel
theorem d_Mo_move_71 : decode b_Mo_move 71 = .ok (.getfield 57, 3) := by decide +kernel
theorem d_Mo_move_74 : decode b_Mo_move 74 = .ok (.iconst 0, 1) := by decide +kernel
theorem d_Mo_move_75 : decode b_Mo_move 75 = .ok (.aload_n 0, 1) := by decide +kernel
theorem d_Mo_move_76 : decode b_Mo_move 76 = .ok (.getfield 57, 3) := by decide +kernel
theorem d_Mo_move_79 : decode b_Mo_move 79 = .ok (.iconst 0, 1) := by decide +kernel
theorem d_Mo_move_80 : decode b_Mo_move 80 = .ok (.iaload, 1) := by decide +kernel
theorem d_Mo_move_81 : decode b_Mo_move 81 = .ok (.iload_n 3, 1) := by decide +kernel
theorem d_Mo_move_82 : decode b_Mo_move 82 = .ok (.iload_n 1, 1) := by decide +kernel
theorem d_Mo_move_83 : decode b_Mo_move 83 = .ok (.imul, 1) := by decide +kernel
theorem d_Mo_move_84 : decode b_Mo_move 84 = .ok (.iadd, 1) := by decide +kernel
theorem d_Mo_move_85 : decode b_Mo_move 85 = .ok (.bipush 63, 2) := by decide +kernel
theorem d_Mo_move_87 : decode b_Mo_move 87 = .ok (.iand, 1) := by decide +kernel
theorem d_Mo_move_88 : decode b_Mo_move 88 = .ok (.iastore, 1) := by decide +kernel
theorem d_Mo_move_89 : decode b_Mo_move 89 = .ok (.iconst 1, 1) := by decide +kernel
theorem d_Mo_move_90 : decode b_Mo_move 90 = .ok (.istore 4, 2) := by decide +kernel
theorem d_Mo_move_92 : decode b_Mo_move 92 = .ok (.iload 4, 2) := by decide +kernel
theorem d_Mo_move_94 : decode b_Mo_move 94 = .ok (.aload_n 0, 1) := by decide +kernel
theorem d_Mo_move_95 : decode b_Mo_move 95 = .ok (.getfield 84, 3) := by decide +kernel
theorem d_Mo_move_98 : decode b_Mo_move 98 = .ok (.if_icmp .ge 105, 3) := by decide +kernel
theorem d_Mo_move_101 : decode b_Mo_move 101 = .ok (.aload_n 0, 1) := by decide +kernel
theorem d_Mo_move_102 : decode b_Mo_move 102 = .ok (.getfield 60, 3) := by decide +kernel
theorem d_Mo_move_105 : decode b_Mo_move 105 = .ok (.iload 4, 2) := by decide +kernel
theorem d_Mo_move_107 : decode b_Mo_move 107 = .ok (.aload_n 0, 1) := by decide +kernel
theorem d_Mo_move_108 : decode b_Mo_move 108 = .ok (.getfield 60, 3) := by decide +kernel
theorem d_Mo_move_111 : decode b_Mo_move 111 = .ok (.iload 4, 2) := by decide +kernel
theorem d_Mo_move_113 : decode b_Mo_move 113 = .ok (.iaload, 1) := by decide +kernel
theorem d_Mo_move_114 : decode b_Mo_move 114 = .ok (.iload_n 3, 1) := by decide +kernel
theorem d_Mo_move_115 : decode b_Mo_move 115 = .ok (.aload_n 0, 1) := by decide +kernel
theorem d_Mo_move_116 : decode b_Mo_move 116 = .ok (.iload 4, 2) := by decide +kernel
theorem d_Mo_move_118 : decode b_Mo_move 118 = .ok (.invokevirtual 145, 3) := by decide +kernel
theorem d_Mo_move_121 : decode b_Mo_move 121 = .ok (.imul, 1) := by decide +kernel
theorem d_Mo_move_122 : decode b_Mo_move 122 = .ok (.aload_n 0, 1) := by decide +kernel
theorem d_Mo_move_123 : decode b_Mo_move 123 = .ok (.getfield 28, 3) := by decide +kernel
theorem d_Mo_move_126 : decode b_Mo_move 126 = .ok (.imul, 1) := by decide +kernel
theorem d_Mo_move_127 : decode b_Mo_move 127 = .ok (.iadd, 1) := by decide +kernel
theorem d_Mo_move_128 : decode b_Mo_move 128 = .ok (.iastore, 1) := by decide +kernel
theorem d_Mo_move_129 : decode b_Mo_move 129 = .ok (.aload_n 0, 1) := by decide +kernel
theorem d_Mo_move_130 : decode b_Mo_move 130 = .ok (.getfield 60, 3) := by decide +kernel
theorem d_Mo_move_133 : decode b_Mo_move 133 = .ok (.iload 4, 2) := by decide +kernel
theorem d_Mo_move_135 : decode b_Mo_move 135 = .ok (.iaload, 1) := by decide +kernel
theorem d_Mo_move_136 : decode b_Mo_move 136 = .ok (.aload_n 0, 1) := by decide +kernel
theorem d_Mo_move_137 : decode b_Mo_move 137 = .ok (.getfield 13, 3) := by decide +kernel
theorem d_Mo_move_140 : decode b_Mo_move 140 = .ok (.iload 4, 2) := by decide +kernel
theorem d_Mo_move_142 : decode b_Mo_move 142 = .ok (.iaload, 1) := by decide +kernel
theorem d_Mo_move_143 : decode b_Mo_move 143 = .ok (.idiv, 1) := by decide +kernel
theorem d_Mo_move_144 : decode b_Mo_move 144 = .ok (.istore 5, 2) := by decide +kernel
theorem d_Mo_move_146 : decode b_Mo_move 146 = .ok (.aload_n 0, 1) := by decide +kernel
theorem d_Mo_move_147 : decode b_Mo_move 147 = .ok (.getfield 57, 3) := by decide +kernel
theorem d_Mo_move_150 : decode b_Mo_move 150 = .ok (.iload 4, 2) := by decide +kernel
theorem d_Mo_move_152 : decode b_Mo_move 152 = .ok (.aload_n 0, 1) := by decide +kernel
theorem d_Mo_move_153 : decode b_Mo_move 153 = .ok (.getfield 57, 3) := by decide +kernel
theorem d_Mo_move_156 : decode b_Mo_move 156 = .ok (.iload 4, 2) := by decide +kernel
theorem d_Mo_move_158 : decode b_Mo_move 158 = .ok (.iaload, 1) := by decide +kernel
theorem d_Mo_move_159 : decode b_Mo_move 159 = .ok (.iload 5, 2) := by decide +kernel
theorem d_Mo_move_161 : decode b_Mo_move 161 = .ok (.iadd, 1) := by decide +kernel
theorem d_Mo_move_162 : decode b_Mo_move 162 = .ok (.bipush 63, 2) := by decide +kernel
theorem d_Mo_move_164 : decode b_Mo_move 164 = .ok (.iand, 1) := by decide +kernel
theorem d_Mo_move_165 : decode b_Mo_move 165 = .ok (.iastore, 1) := by decide +kernel
theorem d_Mo_move_166 : decode b_Mo_move 166 = .ok (.aload_n 0, 1) := by decide +kernel
theorem d_Mo_move_167 : decode b_Mo_move 167 = .ok (.getfield 60, 3) := by decide +kernel
theorem d_Mo_move_170 : decode b_Mo_move 170 = .ok (.iload 4, 2) := by decide +kernel
theorem d_Mo_move_172 : decode b_Mo_move 172 = .ok (.aload_n 0, 1) := by decide +kernel
theorem d_Mo_move_173 : decode b_Mo_move 173 = .ok (.getfield 60, 3) := by decide +kernel
theorem d_Mo_move_176 : decode b_Mo_move 176 = .ok (.iload 4, 2) := by decide +kernel
theorem d_Mo_move_178 : decode b_Mo_move 178 = .ok (.iaload, 1) := by decide +kernel
theorem d_Mo_move_179 : decode b_Mo_move 179 = .ok (.iload 5, 2) := by decide +kernel
theorem d_Mo_move_181 : decode b_Mo_move 181 = .ok (.aload_n 0, 1) := by decide +kernel
theorem d_Mo_move_182 : decode b_Mo_move 182 = .ok (.getfield 13, 3) := by decide +kernel
theorem d_Mo_move_185 : decode b_Mo_move 185 = .ok (.iload 4, 2) := by decide +kernel
theorem d_Mo_move_187 : decode b_Mo_move 187 = .ok (.iaload, 1) := by decide +kernel
theorem d_Mo_move_188 : decode b_Mo_move 188 = .ok (.imul, 1) := by decide +kernel
theorem d_Mo_move_189 : decode b_Mo_move 189 = .ok (.isub, 1) := by decide +kernel
theorem d_Mo_move_190 : decode b_Mo_move 190 = .ok (.iastore, 1) := by decide +kernel
theorem d_Mo_move_191 : decode b_Mo_move 191 = .ok (.aload_n 0, 1) := by decide +kernel
theorem d_Mo_move_192 : decode b_Mo_move 192 = .ok (.iload 4, 2) := by decide +kernel
theorem d_Mo_move_194 : decode b_Mo_move 194 = .ok (.invokevirtual 138, 3) := by decide +kernel
theorem d_Mo_move_197 : decode b_Mo_move 197 = .ok (.iinc 4 1, 3) := by decide +kernel
theorem d_Mo_move_200 : decode b_Mo_move 200 = .ok (.goto (-108), 3) := by decide +kernel
theorem d_Mo_move_203 : decode b_Mo_move 203 = .ok (.aload_n 0, 1) := by decide +kernel
theorem d_Mo_move_204 : decode b_Mo_move 204 = .ok (.dup, 1) := by decide +kernel
theorem d_Mo_move_205 : decode b_Mo_move 205 = .ok (.getfield 122, 3) := by decide +kernel
theorem d_Mo_move_208 : decode b_Mo_move 208 = .ok (.iconst 1, 1) := by decide +kernel
theorem d_Mo_move_209 : decode b_Mo_move 209 = .ok (.iadd, 1) := by decide +kernel
theorem d_Mo_move_210 : decode b_Mo_move 210 = .ok (.putfield 122, 3) := by decide +kernel
theorem d_Mo_move_213 : decode b_Mo_move 213 = .ok (.iconst 1, 1) := by decide +kernel
theorem d_Mo_move_214 : decode b_Mo_move 214 = .ok (.istore 4, 2) := by decide +kernel
theorem d_Mo_move_216 : decode b_Mo_move 216 = .ok (.iload 4, 2) := by decide +kernel
theorem d_Mo_move_218 : decode b_Mo_move 218 = .ok (.aload_n 0, 1) := by decide +kernel
theorem d_Mo_move_219 : decode b_Mo_move 219 = .ok (.getfield 84, 3) := by decide +kernel
theorem d_Mo_move_222 : decode b_Mo_move 222 = .ok (.if_icmp .ge 86, 3) := by decide +kernel
theorem d_Mo_move_225 : decode b_Mo_move 225 = .ok (.aload_n 0, 1) := by decide +kernel
theorem d_Mo_move_226 : decode b_Mo_move 226 = .ok (.iload 4, 2) := by decide +kernel
theorem d_Mo_move_228 : decode b_Mo_move 228 = .ok (.invokevirtual 145, 3) := by decide +kernel
theorem d_Mo_move_231 : decode b_Mo_move 231 = .ok (.istore 5, 2) := by decide +kernel
theorem d_Mo_move_233 : decode b_Mo_move 233 = .ok (.iload 5, 2) := by decide +kernel
theorem d_Mo_move_235 : decode b_Mo_move 235 = .ok (.ifCond .ge 9, 3) := by decide +kernel
theorem d_Mo_move_238 : decode b_Mo_move 238 = .ok (.iload 5, 2) := by decide +kernel
theorem d_Mo_move_240 : decode b_Mo_move 240 = .ok (.ineg, 1) := by decide +kernel
theorem d_Mo_move_241 : decode b_Mo_move 241 = .ok (.goto 5, 3) := by decide +kernel
theorem d_Mo_move_244 : decode b_Mo_move 244 = .ok (.iload 5, 2) := by decide +kernel
theorem d_Mo_move_246 : decode b_Mo_move 246 = .ok (.istore 6, 2) := by decide +kernel
theorem d_Mo_move_248 : decode b_Mo_move 248 = .ok (.aload_n 0, 1) := by decide +kernel
theorem d_Mo_move_249 : decode b_Mo_move 249 = .ok (.getfield 63, 3) := by decide +kernel
theorem d_Mo_move_252 : decode b_Mo_move 252 = .ok (.iload 4, 2) := by decide +kernel
theorem d_Mo_move_254 : decode b_Mo_move 254 = .ok (.iload 6, 2) := by decide +kernel
theorem d_Mo_move_256 : decode b_Mo_move 256 = .ok (.aload_n 0, 1) := by decide +kernel
theorem d_Mo_move_257 : decode b_Mo_move 257 = .ok (.getfield 63, 3) := by decide +kernel
theorem d_Mo_move_260 : decode b_Mo_move 260 = .ok (.iload 4, 2) := by decide +kernel
theorem d_Mo_move_262 : decode b_Mo_move 262 = .ok (.iaload, 1) := by decide +kernel
theorem d_Mo_move_263 : decode b_Mo_move 263 = .ok (.if_icmp .le 8, 3) := by decide +kernel
theorem d_Mo_move_266 : decode b_Mo_move 266 = .ok (.iload 6, 2) := by decide +kernel
theorem d_Mo_move_268 : decode b_Mo_move 268 = .ok (.goto 10, 3) := by decide +kernel
theorem d_Mo_move_271 : decode b_Mo_move 271 = .ok (.aload_n 0, 1) := by decide +kernel
theorem d_Mo_move_272 : decode b_Mo_move 272 = .ok (.getfield 63, 3) := by decide +kernel
theorem d_Mo_move_275 : decode b_Mo_move 275 = .ok (.iload 4, 2) := by decide +kernel
theorem d_Mo_move_277 : decode b_Mo_move 277 = .ok (.iaload, 1) := by decide +kernel
theorem d_Mo_move_278 : decode b_Mo_move 278 = .ok (.iastore, 1) := by decide +kernel
theorem d_Mo_move_279 : decode b_Mo_move 279 = .ok (.aload_n 0, 1) := by decide +kernel
theorem d_Mo_move_280 : decode b_Mo_move 280 = .ok (.aload_n 0, 1) := by decide +kernel
theorem d_Mo_move_281 : decode b_Mo_move 281 = .ok (.getfield 125, 3) := by decide +kernel
theorem d_Mo_move_284 : decode b_Mo_move 284 = .ok (.ifCond .ne 10, 3) := by decide +kernel
theorem d_Mo_move_287 : decode b_Mo_move 287 = .ok (.iload 6, 2) := by decide +kernel
theorem d_Mo_move_289 : decode b_Mo_move 289 = .ok (.bipush 24, 2) := by decide +kernel
theorem d_Mo_move_291 : decode b_Mo_move 291 = .ok (.if_icmp .le 7, 3) := by decide +kernel
theorem d_Mo_move_294 : decode b_Mo_move 294 = .ok (.iconst 1, 1) := by decide +kernel
theorem d_Mo_move_295 : decode b_Mo_move 295 = .ok (.goto 4, 3) := by decide +kernel
theorem d_Mo_move_298 : decode b_Mo_move 298 = .ok (.iconst 0, 1) := by decide +kernel
theorem d_Mo_move_299 : decode b_Mo_move 299 = .ok (.putfield 125, 3) := by decide +kernel
theorem d_Mo_move_302 : decode b_Mo_move 302 = .ok (.iinc 4 1, 3) := by decide +kernel
theorem d_Mo_move_305 : decode b_Mo_move 305 = .ok (.goto (-89), 3) := by decide +kernel
theorem d_Mo_move_308 : decode b_Mo_move 308 = .ok (.aload_n 0, 1) := by decide +kernel
theorem d_Mo_move_309 : decode b_Mo_move 309 = .ok (.invokevirtual 142, 3) := by decide +kernel
theorem d_Mo_move_312 : decode b_Mo_move 312 = .ok (.return_, 1) := by decide +kernel
theorem d_Mo_goOn_0 : decode b_Mo_goOn 0 = .ok (.iconst 0, 1) := by decide +kernel
theorem d_Mo_goOn_1 : decode b_Mo_goOn 1 = .ok (.istore 4, 2) := by decide +kernel
theorem d_Mo_goOn_3 : decode b_Mo_goOn 3 = .ok (.iload 4, 2) := by decide +kernel
theorem d_Mo_goOn_5 : decode b_Mo_goOn 5 = .ok (.iload_n 2, 1) := by decide +kernel
theorem d_Mo_goOn_6 : decode b_Mo_goOn 6 = .ok (.if_icmp .ge 32, 3) := by decide +kernel
theorem d_Mo_goOn_9 : decode b_Mo_goOn 9 = .ok (.aload_n 0, 1) := by decide +kernel
theorem d_Mo_goOn_10 : decode b_Mo_goOn 10 = .ok (.getfield 125, 3) := by decide +kernel
theorem d_Mo_goOn_13 : decode b_Mo_goOn 13 = .ok (.ifCond .ne 25, 3) := by decide +kernel
theorem d_Mo_goOn_16 : decode b_Mo_goOn 16 = .ok (.aload_n 0, 1) := by decide +kernel
theorem d_Mo_goOn_17 : decode b_Mo_goOn 17 = .ok (.getfield 122, 3) := by decide +kernel
theorem d_Mo_goOn_20 : decode b_Mo_goOn 20 = .ok (.sipush 4000, 3) := by decide +kernel
theorem d_Mo_goOn_23 : decode b_Mo_goOn 23 = .ok (.if_icmp .ge 15, 3) := by decide +kernel
theorem d_Mo_goOn_26 : decode b_Mo_goOn 26 = .ok (.aload_n 0, 1) := by decide +kernel
theorem d_Mo_goOn_27 : decode b_Mo_goOn 27 = .ok (.iload_n 1, 1) := by decide +kernel
theorem d_Mo_goOn_28 : decode b_Mo_goOn 28 = .ok (.iload_n 3, 1) := by decide +kernel
theorem d_Mo_goOn_29 : decode b_Mo_goOn 29 = .ok (.invokevirtual 148, 3) := by decide +kernel
theorem d_Mo_goOn_32 : decode b_Mo_goOn 32 = .ok (.iinc 4 1, 3) := by decide +kernel
theorem d_Mo_goOn_35 : decode b_Mo_goOn 35 = .ok (.goto (-32), 3) := by decide +kernel
theorem d_Mo_goOn_38 : decode b_Mo_goOn 38 = .ok (.return_, 1) := by decide +kernel
theorem d_Mo_body_0 : decode b_Mo_body 0 = .ok (.iload_n 1, 1) := by decide +kernel
theorem d_Mo_body_1 : decode b_Mo_body 1 = .ok (.iconst 1, 1) := by decide +kernel
theorem d_Mo_body_2 : decode b_Mo_body 2 = .ok (.sipush 200, 3) := by decide +kernel
theorem d_Mo_body_5 : decode b_Mo_body 5 = .ok (.invokestatic 152, 3) := by decide +kernel
theorem d_Mo_body_8 : decode b_Mo_body 8 = .ok (.ifCond .eq 50, 3) := by decide +kernel
theorem d_Mo_body_11 : decode b_Mo_body 11 = .ok (.iload_n 2, 1) := by decide +kernel
theorem d_Mo_body_12 : decode b_Mo_body 12 = .ok (.iconst 0, 1) := by decide +kernel
theorem d_Mo_body_13 : decode b_Mo_body 13 = .ok (.sipush 200, 3) := by decide +kernel
theorem d_Mo_body_16 : decode b_Mo_body 16 = .ok (.invokestatic 152, 3) := by decide +kernel
theorem d_Mo_body_19 : decode b_Mo_body 19 = .ok (.ifCond .eq 39, 3) := by decide +kernel
theorem d_Mo_body_22 : decode b_Mo_body 22 = .ok (.iload_n 3, 1) := by decide +kernel
theorem d_Mo_body_23 : decode b_Mo_body 23 = .ok (.iconst 0, 1) := by decide +kernel
theorem d_Mo_body_24 : decode b_Mo_body 24 = .ok (.bipush 60, 2) := by decide +kernel
theorem d_Mo_body_26 : decode b_Mo_body 26 = .ok (.invokestatic 152, 3) := by decide +kernel
theorem d_Mo_body_29 : decode b_Mo_body 29 = .ok (.ifCond .eq 29, 3) := by decide +kernel
theorem d_Mo_body_32 : decode b_Mo_body 32 = .ok (.iload 4, 2) := by decide +kernel
theorem d_Mo_body_34 : decode b_Mo_body 34 = .ok (.iconst 0, 1) := by decide +kernel
theorem d_Mo_body_35 : decode b_Mo_body 35 = .ok (.bipush 60, 2) := by decide +kernel
theorem d_Mo_body_37 : decode b_Mo_body 37 = .ok (.invokestatic 152, 3) := by decide +kernel
theorem d_Mo_body_40 : decode b_Mo_body 40 = .ok (.ifCond .eq 18, 3) := by decide +kernel
theorem d_Mo_body_43 : decode b_Mo_body 43 = .ok (.iload 5, 2) := by decide +kernel
theorem d_Mo_body_45 : decode b_Mo_body 45 = .ok (.iconst 1, 1) := by decide +kernel
theorem d_Mo_body_46 : decode b_Mo_body 46 = .ok (.bipush 20, 2) := by decide +kernel
theorem d_Mo_body_48 : decode b_Mo_body 48 = .ok (.invokestatic 152, 3) := by decide +kernel
theorem d_Mo_body_51 : decode b_Mo_body 51 = .ok (.ifCond .eq 7, 3) := by decide +kernel
theorem d_Mo_body_54 : decode b_Mo_body 54 = .ok (.iconst 1, 1) := by decide +kernel
theorem d_Mo_body_55 : decode b_Mo_body 55 = .ok (.goto 4, 3) := by decide +kernel
theorem d_Mo_body_58 : decode b_Mo_body 58 = .ok (.iconst 0, 1) := by decide +kernel
theorem d_Mo_body_59 : decode b_Mo_body 59 = .ok (.istore 6, 2) := by decide +kernel
theorem d_Mo_body_61 : decode b_Mo_body 61 = .ok (.aload_n 0, 1) := by decide +kernel
theorem d_Mo_body_62 : decode b_Mo_body 62 = .ok (.iload 6, 2) := by decide +kernel
theorem d_Mo_body_64 : decode b_Mo_body 64 = .ok (.ifCond .ne 7, 3) := by decide +kernel
theorem d_Mo_body_67 : decode b_Mo_body 67 = .ok (.iconst 1, 1) := by decide +kernel
theorem d_Mo_body_68 : decode b_Mo_body 68 = .ok (.goto 16, 3) := by decide +kernel
theorem d_Mo_body_71 : decode b_Mo_body 71 = .ok (.aload_n 0, 1) := by decide +kernel
theorem d_Mo_body_72 : decode b_Mo_body 72 = .ok (.getfield 84, 3) := by decide +kernel
theorem d_Mo_body_75 : decode b_Mo_body 75 = .ok (.iconst 3, 1) := by decide +kernel
theorem d_Mo_body_76 : decode b_Mo_body 76 = .ok (.if_icmp .ne 7, 3) := by decide +kernel
theorem d_Mo_body_79 : decode b_Mo_body 79 = .ok (.iconst 2, 1) := by decide +kernel
theorem d_Mo_body_80 : decode b_Mo_body 80 = .ok (.goto 4, 3) := by decide +kernel
theorem d_Mo_body_83 : decode b_Mo_body 83 = .ok (.iconst 0, 1) := by decide +kernel
theorem d_Mo_body_84 : decode b_Mo_body 84 = .ok (.putfield 87, 3) := by decide +kernel
theorem d_Mo_body_87 : decode b_Mo_body 87 = .ok (.aload_n 0, 1) := by decide +kernel
theorem d_Mo_body_88 : decode b_Mo_body 88 = .ok (.getfield 87, 3) := by decide +kernel
theorem d_Mo_body_91 : decode b_Mo_body 91 = .ok (.ifCond .le 5, 3) := by decide +kernel
theorem d_Mo_body_94 : decode b_Mo_body 94 = .ok (.iconst 0, 1) := by decide +kernel
theorem d_Mo_body_95 : decode b_Mo_body 95 = .ok (.ireturn, 1) := by decide +kernel
theorem d_Mo_body_96 : decode b_Mo_body 96 = .ok (.aload_n 0, 1) := by decide +kernel
theorem d_Mo_body_97 : decode b_Mo_body 97 = .ok (.getfield 13, 3) := by decide +kernel
theorem d_Mo_body_100 : decode b_Mo_body 100 = .ok (.aload_n 0, 1) := by decide +kernel
theorem d_Mo_body_101 : decode b_Mo_body 101 = .ok (.getfield 84, 3) := by decide +kernel
theorem d_Mo_body_104 : decode b_Mo_body 104 = .ok (.iload_n 1, 1) := by decide +kernel
theorem d_Mo_body_105 : decode b_Mo_body 105 = .ok (.iastore, 1) := by decide +kernel
theorem d_Mo_body_106 : decode b_Mo_body 106 = .ok (.aload_n 0, 1) := by decide +kernel
theorem d_Mo_body_107 : decode b_Mo_body 107 = .ok (.getfield 16, 3) := by decide +kernel
theorem d_Mo_body_110 : decode b_Mo_body 110 = .ok (.aload_n 0, 1) := by decide +kernel
theorem d_Mo_body_111 : decode b_Mo_body 111 = .ok (.getfield 84, 3) := by decide +kernel
theorem d_Mo_body_114 : decode b_Mo_body 114 = .ok (.iload_n 2, 1) := by decide +kernel
theorem d_Mo_body_115 : decode b_Mo_body 115 = .ok (.iastore, 1) := by decide +kernel
theorem d_Mo_body_116 : decode b_Mo_body 116 = .ok (.aload_n 0, 1) := by decide +kernel
theorem d_Mo_body_117 : decode b_Mo_body 117 = .ok (.getfield 19, 3) := by decide +kernel
theorem d_Mo_body_120 : decode b_Mo_body 120 = .ok (.aload_n 0, 1) := by decide +kernel
theorem d_Mo_body_121 : decode b_Mo_body 121 = .ok (.getfield 84, 3) := by decide +kernel
theorem d_Mo_body_124 : decode b_Mo_body 124 = .ok (.iload_n 3, 1) := by decide +kernel
theorem d_Mo_body_125 : decode b_Mo_body 125 = .ok (.iastore, 1) := by decide +kernel
theorem d_Mo_body_126 : decode b_Mo_body 126 = .ok (.aload_n 0, 1) := by decide +kernel
theorem d_Mo_body_127 : decode b_Mo_body 127 = .ok (.getfield 22, 3) := by decide +kernel
theorem d_Mo_body_130 : decode b_Mo_body 130 = .ok (.aload_n 0, 1) := by decide +kernel
theorem d_Mo_body_131 : decode b_Mo_body 131 = .ok (.getfield 84, 3) := by decide +kernel
theorem d_Mo_body_134 : decode b_Mo_body 134 = .ok (.iload 4, 2) := by decide +kernel
theorem d_Mo_body_136 : decode b_Mo_body 136 = .ok (.iastore, 1) := by decide +kernel
theorem d_Mo_body_137 : decode b_Mo_body 137 = .ok (.aload_n 0, 1) := by decide +kernel
theorem d_Mo_body_138 : decode b_Mo_body 138 = .ok (.getfield 25, 3) := by decide +kernel
theorem d_Mo_body_141 : decode b_Mo_body 141 = .ok (.aload_n 0, 1) := by decide +kernel
theorem d_Mo_body_142 : decode b_Mo_body 142 = .ok (.getfield 84, 3) := by decide +kernel
theorem d_Mo_body_145 : decode b_Mo_body 145 = .ok (.iload 5, 2) := by decide +kernel
theorem d_Mo_body_147 : decode b_Mo_body 147 = .ok (.iastore, 1) := by decide +kernel
theorem d_Mo_body_148 : decode b_Mo_body 148 = .ok (.aload_n 0, 1) := by decide +kernel
theorem d_Mo_body_149 : decode b_Mo_body 149 = .ok (.dup, 1) := by decide +kernel
theorem d_Mo_body_150 : decode b_Mo_body 150 = .ok (.getfield 84, 3) := by decide +kernel
theorem d_Mo_body_153 : decode b_Mo_body 153 = .ok (.iconst 1, 1) := by decide +kernel
theorem d_Mo_body_154 : decode b_Mo_body 154 = .ok (.iadd, 1) := by decide +kernel
theorem d_Mo_body_155 : decode b_Mo_body 155 = .ok (.putfield 84, 3) := by decide +kernel
theorem d_Mo_body_158 : decode b_Mo_body 158 = .ok (.aload_n 0, 1) := by decide +kernel
theorem d_Mo_body_159 : decode b_Mo_body 159 = .ok (.invokevirtual 155, 3) := by decide +kernel
theorem d_Mo_body_162 : decode b_Mo_body 162 = .ok (.aload_n 0, 1) := by decide +kernel
theorem d_Mo_body_163 : decode b_Mo_body 163 = .ok (.getfield 84, 3) := by decide +kernel
theorem d_Mo_body_166 : decode b_Mo_body 166 = .ok (.iconst 1, 1) := by decide +kernel
theorem d_Mo_body_167 : decode b_Mo_body 167 = .ok (.isub, 1) := by decide +kernel
theorem d_Mo_body_168 : decode b_Mo_body 168 = .ok (.ireturn, 1) := by decide +kernel
theorem d_Mo_start_0 : decode b_Mo_start 0 = .ok (.aload_n 0, 1) := by decide +kernel
theorem d_Mo_start_1 : decode b_Mo_start 1 = .ok (.iload_n 1, 1) := by decide +kernel
theorem d_Mo_start_2 : decode b_Mo_start 2 = .ok (.sipush (-1000), 3) := by decide +kernel
theorem d_Mo_start_5 : decode b_Mo_start 5 = .ok (.sipush 1000, 3) := by decide +kernel
theorem d_Mo_start_8 : decode b_Mo_start 8 = .ok (.invokestatic 152, 3) := by decide +kernel
theorem d_Mo_start_11 : decode b_Mo_start 11 = .ok (.ifCond .eq 30, 3) := by decide +kernel
theorem d_Mo_start_14 : decode b_Mo_start 14 = .ok (.iload_n 2, 1) := by decide +kernel
theorem d_Mo_start_15 : decode b_Mo_start 15 = .ok (.sipush (-1000), 3) := by decide +kernel
theorem d_Mo_start_18 : decode b_Mo_start 18 = .ok (.sipush 1000, 3) := by decide +kernel
theorem d_Mo_start_21 : decode b_Mo_start 21 = .ok (.invokestatic 152, 3) := by decide +kernel
theorem d_Mo_start_24 : decode b_Mo_start 24 = .ok (.ifCond .eq 17, 3) := by decide +kernel
theorem d_Mo_start_27 : decode b_Mo_start 27 = .ok (.iload_n 3, 1) := by decide +kernel
theorem d_Mo_start_28 : decode b_Mo_start 28 = .ok (.iconst 0, 1) := by decide +kernel
theorem d_Mo_start_29 : decode b_Mo_start 29 = .ok (.bipush 63, 2) := by decide +kernel
theorem d_Mo_start_31 : decode b_Mo_start 31 = .ok (.invokestatic 152, 3) := by decide +kernel
theorem d_Mo_start_34 : decode b_Mo_start 34 = .ok (.ifCond .eq 7, 3) := by decide +kernel
theorem d_Mo_start_37 : decode b_Mo_start 37 = .ok (.iconst 0, 1) := by decide +kernel
theorem d_Mo_start_38 : decode b_Mo_start 38 = .ok (.goto 4, 3) := by decide +kernel
theorem d_Mo_start_41 : decode b_Mo_start 41 = .ok (.iconst 1, 1) := by decide +kernel
theorem d_Mo_start_42 : decode b_Mo_start 42 = .ok (.putfield 87, 3) := by decide +kernel
theorem d_Mo_start_45 : decode b_Mo_start 45 = .ok (.aload_n 0, 1) := by decide +kernel
theorem d_Mo_start_46 : decode b_Mo_start 46 = .ok (.getfield 87, 3) := by decide +kernel
theorem d_Mo_start_49 : decode b_Mo_start 49 = .ok (.ifCond .le 4, 3) := by decide +kernel
theorem d_Mo_start_52 : decode b_Mo_start 52 = .ok (.return_, 1) := by decide +kernel
theorem d_Mo_start_53 : decode b_Mo_start 53 = .ok (.aload_n 0, 1) := by decide +kernel
theorem d_Mo_start_54 : decode b_Mo_start 54 = .ok (.iload_n 1, 1) := by decide +kernel
theorem d_Mo_start_55 : decode b_Mo_start 55 = .ok (.putfield 129, 3) := by decide +kernel
theorem d_Mo_start_58 : decode b_Mo_start 58 = .ok (.aload_n 0, 1) := by decide +kernel
theorem d_Mo_start_59 : decode b_Mo_start 59 = .ok (.iload_n 2, 1) := by decide +kernel
theorem d_Mo_start_60 : decode b_Mo_start 60 = .ok (.putfield 132, 3) := by decide +kernel
theorem d_Mo_start_63 : decode b_Mo_start 63 = .ok (.aload_n 0, 1) := by decide +kernel
theorem d_Mo_start_64 : decode b_Mo_start 64 = .ok (.iload_n 3, 1) := by decide +kernel
theorem d_Mo_start_65 : decode b_Mo_start 65 = .ok (.putfield 135, 3) := by decide +kernel
theorem d_Mo_start_68 : decode b_Mo_start 68 = .ok (.aload_n 0, 1) := by decide +kernel
theorem d_Mo_start_69 : decode b_Mo_start 69 = .ok (.invokevirtual 155, 3) := by decide +kernel
theorem d_Mo_start_72 : decode b_Mo_start 72 = .ok (.return_, 1) := by decide +kernel
theorem d_Mo_step_0 : decode b_Mo_step 0 = .ok (.aload_n 0, 1) := by decide +kernel
theorem d_Mo_step_1 : decode b_Mo_step 1 = .ok (.iload_n 1, 1) := by decide +kernel
theorem d_Mo_step_2 : decode b_Mo_step 2 = .ok (.iconst 1, 1) := by decide +kernel
theorem d_Mo_step_3 : decode b_Mo_step 3 = .ok (.bipush 20, 2) := by decide +kernel
theorem d_Mo_step_5 : decode b_Mo_step 5 = .ok (.invokestatic 152, 3) := by decide +kernel
theorem d_Mo_step_8 : decode b_Mo_step 8 = .ok (.ifCond .eq 7, 3) := by decide +kernel
theorem d_Mo_step_11 : decode b_Mo_step 11 = .ok (.iconst 0, 1) := by decide +kernel
theorem d_Mo_step_12 : decode b_Mo_step 12 = .ok (.goto 4, 3) := by decide +kernel
theorem d_Mo_step_15 : decode b_Mo_step 15 = .ok (.iconst 1, 1) := by decide +kernel
theorem d_Mo_step_16 : decode b_Mo_step 16 = .ok (.putfield 87, 3) := by decide +kernel
theorem d_Mo_step_19 : decode b_Mo_step 19 = .ok (.aload_n 0, 1) := by decide +kernel
theorem d_Mo_step_20 : decode b_Mo_step 20 = .ok (.getfield 87, 3) := by decide +kernel
theorem d_Mo_step_23 : decode b_Mo_step 23 = .ok (.ifCond .le 5, 3) := by decide +kernel
theorem d_Mo_step_26 : decode b_Mo_step 26 = .ok (.iconst 0, 1) := by decide +kernel
theorem d_Mo_step_27 : decode b_Mo_step 27 = .ok (.ireturn, 1) := by decide +kernel
theorem d_Mo_step_28 : decode b_Mo_step 28 = .ok (.aload_n 0, 1) := by decide +kernel
theorem d_Mo_step_29 : decode b_Mo_step 29 = .ok (.getfield 28, 3) := by decide +kernel
theorem d_Mo_step_32 : decode b_Mo_step 32 = .ok (.istore_n 2, 1) := by decide +kernel
theorem d_Mo_step_33 : decode b_Mo_step 33 = .ok (.aload_n 0, 1) := by decide +kernel
theorem d_Mo_step_34 : decode b_Mo_step 34 = .ok (.iload_n 1, 1) := by decide +kernel
theorem d_Mo_step_35 : decode b_Mo_step 35 = .ok (.putfield 28, 3) := by decide +kernel
theorem d_Mo_step_38 : decode b_Mo_step 38 = .ok (.aload_n 0, 1) := by decide +kernel
theorem d_Mo_step_39 : decode b_Mo_step 39 = .ok (.invokevirtual 155, 3) := by decide +kernel
theorem d_Mo_step_42 : decode b_Mo_step 42 = .ok (.iload_n 2, 1) := by decide +kernel
theorem d_Mo_step_43 : decode b_Mo_step 43 = .ok (.ireturn, 1) := by decide +kernel
theorem d_Mo_pole_0 : decode b_Mo_pole 0 = .ok (.aload_n 0, 1) := by decide +kernel
theorem d_Mo_pole_1 : decode b_Mo_pole 1 = .ok (.iload_n 1, 1) := by decide +kernel
theorem d_Mo_pole_2 : decode b_Mo_pole 2 = .ok (.sipush (-1000), 3) := by decide +kernel
theorem d_Mo_pole_5 : decode b_Mo_pole 5 = .ok (.sipush 1000, 3) := by decide +kernel
theorem d_Mo_pole_8 : decode b_Mo_pole 8 = .ok (.invokestatic 152, 3) := by decide +kernel
theorem d_Mo_pole_11 : decode b_Mo_pole 11 = .ok (.ifCond .eq 16, 3) := by decide +kernel
theorem d_Mo_pole_14 : decode b_Mo_pole 14 = .ok (.iload_n 2, 1) := by decide +kernel
theorem d_Mo_pole_15 : decode b_Mo_pole 15 = .ok (.sipush (-1000), 3) := by decide +kernel
theorem d_Mo_pole_18 : decode b_Mo_pole 18 = .ok (.sipush 1000, 3) := by decide +kernel
theorem d_Mo_pole_21 : decode b_Mo_pole 21 = .ok (.invokestatic 152, 3) := by decide +kernel
theorem d_Mo_pole_24 : decode b_Mo_pole 24 = .ok (.ifCond .ne 7, 3) := by decide +kernel
theorem d_Mo_pole_27 : decode b_Mo_pole 27 = .ok (.iconst 1, 1) := by decide +kernel
theorem d_Mo_pole_28 : decode b_Mo_pole 28 = .ok (.goto 17, 3) := by decide +kernel
theorem d_Mo_pole_31 : decode b_Mo_pole 31 = .ok (.aload_n 0, 1) := by decide +kernel
theorem d_Mo_pole_32 : decode b_Mo_pole 32 = .ok (.getfield 119, 3) := by decide +kernel
theorem d_Mo_pole_35 : decode b_Mo_pole 35 = .ok (.bipush 20, 2) := by decide +kernel
theorem d_Mo_pole_37 : decode b_Mo_pole 37 = .ok (.if_icmp .ne 7, 3) := by decide +kernel
theorem d_Mo_pole_40 : decode b_Mo_pole 40 = .ok (.iconst 2, 1) := by decide +kernel
theorem d_Mo_pole_41 : decode b_Mo_pole 41 = .ok (.goto 4, 3) := by decide +kernel
theorem d_Mo_pole_44 : decode b_Mo_pole 44 = .ok (.iconst 0, 1) := by decide +kernel
theorem d_Mo_pole_45 : decode b_Mo_pole 45 = .ok (.putfield 87, 3) := by decide +kernel
theorem d_Mo_pole_48 : decode b_Mo_pole 48 = .ok (.aload_n 0, 1) := by decide +kernel
theorem d_Mo_pole_49 : decode b_Mo_pole 49 = .ok (.getfield 87, 3) := by decide +kernel
theorem d_Mo_pole_52 : decode b_Mo_pole 52 = .ok (.ifCond .le 5, 3) := by decide +kernel
theorem d_Mo_pole_55 : decode b_Mo_pole 55 = .ok (.iconst 0, 1) := by decide +kernel
theorem d_Mo_pole_56 : decode b_Mo_pole 56 = .ok (.ireturn, 1) := by decide +kernel
theorem d_Mo_pole_57 : decode b_Mo_pole 57 = .ok (.aload_n 0, 1) := by decide +kernel
theorem d_Mo_pole_58 : decode b_Mo_pole 58 = .ok (.getfield 32, 3) := by decide +kernel
theorem d_Mo_pole_61 : decode b_Mo_pole 61 = .ok (.aload_n 0, 1) := by decide +kernel
theorem d_Mo_pole_62 : decode b_Mo_pole 62 = .ok (.getfield 119, 3) := by decide +kernel
theorem d_Mo_pole_65 : decode b_Mo_pole 65 = .ok (.iload_n 1, 1) := by decide +kernel
theorem d_Mo_pole_66 : decode b_Mo_pole 66 = .ok (.iastore, 1) := by decide +kernel
theorem d_Mo_pole_67 : decode b_Mo_pole 67 = .ok (.aload_n 0, 1) := by decide +kernel
theorem d_Mo_pole_68 : decode b_Mo_pole 68 = .ok (.getfield 35, 3) := by decide +kernel
theorem d_Mo_pole_71 : decode b_Mo_pole 71 = .ok (.aload_n 0, 1) := by decide +kernel
theorem d_Mo_pole_72 : decode b_Mo_pole 72 = .ok (.getfield 119, 3) := by decide +kernel
theorem d_Mo_pole_75 : decode b_Mo_pole 75 = .ok (.iload_n 2, 1) := by decide +kernel
theorem d_Mo_pole_76 : decode b_Mo_pole 76 = .ok (.iastore, 1) := by decide +kernel
theorem d_Mo_pole_77 : decode b_Mo_pole 77 = .ok (.aload_n 0, 1) := by decide +kernel
theorem d_Mo_pole_78 : decode b_Mo_pole 78 = .ok (.dup, 1) := by decide +kernel
theorem d_Mo_pole_79 : decode b_Mo_pole 79 = .ok (.getfield 119, 3) := by decide +kernel
theorem d_Mo_pole_82 : decode b_Mo_pole 82 = .ok (.iconst 1, 1) := by decide +kernel
theorem d_Mo_pole_83 : decode b_Mo_pole 83 = .ok (.iadd, 1) := by decide +kernel
theorem d_Mo_pole_84 : decode b_Mo_pole 84 = .ok (.putfield 119, 3) := by decide +kernel
theorem d_Mo_pole_87 : decode b_Mo_pole 87 = .ok (.aload_n 0, 1) := by decide +kernel
theorem d_Mo_pole_88 : decode b_Mo_pole 88 = .ok (.getfield 119, 3) := by decide +kernel
theorem d_Mo_pole_91 : decode b_Mo_pole 91 = .ok (.iconst 1, 1) := by decide +kernel
theorem d_Mo_pole_92 : decode b_Mo_pole 92 = .ok (.isub, 1) := by decide +kernel
theorem d_Mo_pole_93 : decode b_Mo_pole 93 = .ok (.ireturn, 1) := by decide +kernel
theorem d_Mo_go_0 : decode b_Mo_go 0 = .ok (.aload_n 0, 1) := by decide +kernel
theorem d_Mo_go_1 : decode b_Mo_go 1 = .ok (.iload_n 1, 1) := by decide +kernel
theorem d_Mo_go_2 : decode b_Mo_go 2 = .ok (.bipush (-3), 2) := by decide +kernel
theorem d_Mo_go_4 : decode b_Mo_go 4 = .ok (.iconst 3, 1) := by decide +kernel
theorem d_Mo_go_5 : decode b_Mo_go 5 = .ok (.invokestatic 152, 3) := by decide +kernel
theorem d_Mo_go_8 : decode b_Mo_go 8 = .ok (.ifCond .eq 14, 3) := by decide +kernel
theorem d_Mo_go_11 : decode b_Mo_go 11 = .ok (.iload_n 2, 1) := by decide +kernel
theorem d_Mo_go_12 : decode b_Mo_go 12 = .ok (.iconst 1, 1) := by decide +kernel
theorem d_Mo_go_13 : decode b_Mo_go 13 = .ok (.sipush 200, 3) := by decide +kernel
theorem d_Mo_go_16 : decode b_Mo_go 16 = .ok (.invokestatic 152, 3) := by decide +kernel
theorem d_Mo_go_19 : decode b_Mo_go 19 = .ok (.ifCond .ne 7, 3) := by decide +kernel
theorem d_Mo_go_22 : decode b_Mo_go 22 = .ok (.iconst 1, 1) := by decide +kernel
theorem d_Mo_go_23 : decode b_Mo_go 23 = .ok (.goto 15, 3) := by decide +kernel
theorem d_Mo_go_26 : decode b_Mo_go 26 = .ok (.aload_n 0, 1) := by decide +kernel
theorem d_Mo_go_27 : decode b_Mo_go 27 = .ok (.getfield 84, 3) := by decide +kernel
theorem d_Mo_go_30 : decode b_Mo_go 30 = .ok (.ifCond .ne 7, 3) := by decide +kernel
theorem d_Mo_go_33 : decode b_Mo_go 33 = .ok (.iconst 2, 1) := by decide +kernel
theorem d_Mo_go_34 : decode b_Mo_go 34 = .ok (.goto 4, 3) := by decide +kernel
theorem d_Mo_go_37 : decode b_Mo_go 37 = .ok (.iconst 0, 1) := by decide +kernel
theorem d_Mo_go_38 : decode b_Mo_go 38 = .ok (.putfield 87, 3) := by decide +kernel
theorem d_Mo_go_41 : decode b_Mo_go 41 = .ok (.aload_n 0, 1) := by decide +kernel
theorem d_Mo_go_42 : decode b_Mo_go 42 = .ok (.getfield 87, 3) := by decide +kernel
theorem d_Mo_go_45 : decode b_Mo_go 45 = .ok (.ifCond .le 5, 3) := by decide +kernel
theorem d_Mo_go_48 : decode b_Mo_go 48 = .ok (.iconst 0, 1) := by decide +kernel
theorem d_Mo_go_49 : decode b_Mo_go 49 = .ok (.ireturn, 1) := by decide +kernel
theorem d_Mo_go_50 : decode b_Mo_go 50 = .ok (.aload_n 0, 1) := by decide +kernel
theorem d_Mo_go_51 : decode b_Mo_go 51 = .ok (.iload_n 1, 1) := by decide +kernel
theorem d_Mo_go_52 : decode b_Mo_go 52 = .ok (.iload_n 2, 1) := by decide +kernel
theorem d_Mo_go_53 : decode b_Mo_go 53 = .ok (.iload_n 3, 1) := by decide +kernel
theorem d_Mo_go_54 : decode b_Mo_go 54 = .ok (.invokevirtual 158, 3) := by decide +kernel
theorem d_Mo_go_57 : decode b_Mo_go 57 = .ok (.aload_n 0, 1) := by decide +kernel
theorem d_Mo_go_58 : decode b_Mo_go 58 = .ok (.getfield 122, 3) := by decide +kernel
theorem d_Mo_go_61 : decode b_Mo_go 61 = .ok (.ireturn, 1) := by decide +kernel
theorem d_Mo_told_0 : decode b_Mo_told 0 = .ok (.aload_n 0, 1) := by decide +kernel
theorem d_Mo_told_1 : decode b_Mo_told 1 = .ok (.iload_n 1, 1) := by decide +kernel
theorem d_Mo_told_2 : decode b_Mo_told 2 = .ok (.iconst 0, 1) := by decide +kernel
theorem d_Mo_told_3 : decode b_Mo_told 3 = .ok (.aload_n 0, 1) := by decide +kernel
theorem d_Mo_told_4 : decode b_Mo_told 4 = .ok (.getfield 84, 3) := by decide +kernel
theorem d_Mo_told_7 : decode b_Mo_told 7 = .ok (.iconst 1, 1) := by decide +kernel
theorem d_Mo_told_8 : decode b_Mo_told 8 = .ok (.isub, 1) := by decide +kernel
theorem d_Mo_told_9 : decode b_Mo_told 9 = .ok (.invokestatic 152, 3) := by decide +kernel
theorem d_Mo_told_12 : decode b_Mo_told 12 = .ok (.ifCond .eq 16, 3) := by decide +kernel
theorem d_Mo_told_15 : decode b_Mo_told 15 = .ok (.iload_n 2, 1) := by decide +kernel
theorem d_Mo_told_16 : decode b_Mo_told 16 = .ok (.iconst 0, 1) := by decide +kernel
theorem d_Mo_told_17 : decode b_Mo_told 17 = .ok (.iconst 4, 1) := by decide +kernel
theorem d_Mo_told_18 : decode b_Mo_told 18 = .ok (.invokestatic 152, 3) := by decide +kernel
theorem d_Mo_told_21 : decode b_Mo_told 21 = .ok (.ifCond .eq 7, 3) := by decide +kernel
theorem d_Mo_told_24 : decode b_Mo_told 24 = .ok (.iconst 0, 1) := by decide +kernel
theorem d_Mo_told_25 : decode b_Mo_told 25 = .ok (.goto 4, 3) := by decide +kernel
theorem d_Mo_told_28 : decode b_Mo_told 28 = .ok (.iconst 1, 1) := by decide +kernel
theorem d_Mo_told_29 : decode b_Mo_told 29 = .ok (.putfield 87, 3) := by decide +kernel
theorem d_Mo_told_32 : decode b_Mo_told 32 = .ok (.aload_n 0, 1) := by decide +kernel
theorem d_Mo_told_33 : decode b_Mo_told 33 = .ok (.getfield 87, 3) := by decide +kernel
theorem d_Mo_told_36 : decode b_Mo_told 36 = .ok (.ifCond .le 5, 3) := by decide +kernel
theorem d_Mo_told_39 : decode b_Mo_told 39 = .ok (.iconst 0, 1) := by decide +kernel
theorem d_Mo_told_40 : decode b_Mo_told 40 = .ok (.ireturn, 1) := by decide +kernel
theorem d_Mo_told_41 : decode b_Mo_told 41 = .ok (.iload_n 2, 1) := by decide +kernel
theorem d_Mo_told_42 : decode b_Mo_told 42 = .ok (.iconst 2, 1) := by decide +kernel
theorem d_Mo_told_43 : decode b_Mo_told 43 = .ok (.if_icmp .ge 23, 3) := by decide +kernel
theorem d_Mo_told_46 : decode b_Mo_told 46 = .ok (.iload_n 2, 1) := by decide +kernel
theorem d_Mo_told_47 : decode b_Mo_told 47 = .ok (.ifCond .ne 12, 3) := by decide +kernel
theorem d_Mo_told_50 : decode b_Mo_told 50 = .ok (.aload_n 0, 1) := by decide +kernel
theorem d_Mo_told_51 : decode b_Mo_told 51 = .ok (.getfield 51, 3) := by decide +kernel
theorem d_Mo_told_54 : decode b_Mo_told 54 = .ok (.iload_n 1, 1) := by decide +kernel
theorem d_Mo_told_55 : decode b_Mo_told 55 = .ok (.iaload, 1) := by decide +kernel
theorem d_Mo_told_56 : decode b_Mo_told 56 = .ok (.goto 9, 3) := by decide +kernel
theorem d_Mo_told_59 : decode b_Mo_told 59 = .ok (.aload_n 0, 1) := by decide +kernel
theorem d_Mo_told_60 : decode b_Mo_told 60 = .ok (.getfield 54, 3) := by decide +kernel
theorem d_Mo_told_63 : decode b_Mo_told 63 = .ok (.iload_n 1, 1) := by decide +kernel
theorem d_Mo_told_64 : decode b_Mo_told 64 = .ok (.iaload, 1) := by decide +kernel
theorem d_Mo_told_65 : decode b_Mo_told 65 = .ok (.ireturn, 1) := by decide +kernel
theorem d_Mo_told_66 : decode b_Mo_told 66 = .ok (.iload_n 2, 1) := by decide +kernel
theorem d_Mo_told_67 : decode b_Mo_told 67 = .ok (.iconst 2, 1) := by decide +kernel
theorem d_Mo_told_68 : decode b_Mo_told 68 = .ok (.if_icmp .ne 12, 3) := by decide +kernel
theorem d_Mo_told_71 : decode b_Mo_told 71 = .ok (.aload_n 0, 1) := by decide +kernel
theorem d_Mo_told_72 : decode b_Mo_told 72 = .ok (.getfield 57, 3) := by decide +kernel
theorem d_Mo_told_75 : decode b_Mo_told 75 = .ok (.iload_n 1, 1) := by decide +kernel
theorem d_Mo_told_76 : decode b_Mo_told 76 = .ok (.iaload, 1) := by decide +kernel
theorem d_Mo_told_77 : decode b_Mo_told 77 = .ok (.goto 22, 3) := by decide +kernel
theorem d_Mo_told_80 : decode b_Mo_told 80 = .ok (.iload_n 2, 1) := by decide +kernel
theorem d_Mo_told_81 : decode b_Mo_told 81 = .ok (.iconst 3, 1) := by decide +kernel
theorem d_Mo_told_82 : decode b_Mo_told 82 = .ok (.if_icmp .ne 11, 3) := by decide +kernel
theorem d_Mo_told_85 : decode b_Mo_told 85 = .ok (.aload_n 0, 1) := by decide +kernel
theorem d_Mo_told_86 : decode b_Mo_told 86 = .ok (.iload_n 1, 1) := by decide +kernel
theorem d_Mo_told_87 : decode b_Mo_told 87 = .ok (.invokevirtual 145, 3) := by decide +kernel
theorem d_Mo_told_90 : decode b_Mo_told 90 = .ok (.goto 9, 3) := by decide +kernel
theorem d_Mo_told_93 : decode b_Mo_told 93 = .ok (.aload_n 0, 1) := by decide +kernel
theorem d_Mo_told_94 : decode b_Mo_told 94 = .ok (.getfield 63, 3) := by decide +kernel
theorem d_Mo_told_97 : decode b_Mo_told 97 = .ok (.iload_n 1, 1) := by decide +kernel
theorem d_Mo_told_98 : decode b_Mo_told 98 = .ok (.iaload, 1) := by decide +kernel
theorem d_Mo_told_99 : decode b_Mo_told 99 = .ok (.ireturn, 1) := by decide +kernel
theorem d_Mo_corner_0 : decode b_Mo_corner 0 = .ok (.aload_n 0, 1) := by decide +kernel
theorem d_Mo_corner_1 : decode b_Mo_corner 1 = .ok (.iload_n 1, 1) := by decide +kernel
theorem d_Mo_corner_2 : decode b_Mo_corner 2 = .ok (.iconst 0, 1) := by decide +kernel
theorem d_Mo_corner_3 : decode b_Mo_corner 3 = .ok (.aload_n 0, 1) := by decide +kernel
theorem d_Mo_corner_4 : decode b_Mo_corner 4 = .ok (.getfield 84, 3) := by decide +kernel
theorem d_Mo_corner_7 : decode b_Mo_corner 7 = .ok (.iconst 1, 1) := by decide +kernel
theorem d_Mo_corner_8 : decode b_Mo_corner 8 = .ok (.isub, 1) := by decide +kernel
theorem d_Mo_corner_9 : decode b_Mo_corner 9 = .ok (.invokestatic 152, 3) := by decide +kernel
theorem d_Mo_corner_12 : decode b_Mo_corner 12 = .ok (.ifCond .eq 25, 3) := by decide +kernel
theorem d_Mo_corner_15 : decode b_Mo_corner 15 = .ok (.iload_n 2, 1) := by decide +kernel
theorem d_Mo_corner_16 : decode b_Mo_corner 16 = .ok (.iconst 0, 1) := by decide +kernel
theorem d_Mo_corner_17 : decode b_Mo_corner 17 = .ok (.iconst 3, 1) := by decide +kernel
theorem d_Mo_corner_18 : decode b_Mo_corner 18 = .ok (.invokestatic 152, 3) := by decide +kernel
theorem d_Mo_corner_21 : decode b_Mo_corner 21 = .ok (.ifCond .eq 16, 3) := by decide +kernel
theorem d_Mo_corner_24 : decode b_Mo_corner 24 = .ok (.iload_n 3, 1) := by decide +kernel
theorem d_Mo_corner_25 : decode b_Mo_corner 25 = .ok (.iconst 0, 1) := by decide +kernel
theorem d_Mo_corner_26 : decode b_Mo_corner 26 = .ok (.iconst 1, 1) := by decide +kernel
theorem d_Mo_corner_27 : decode b_Mo_corner 27 = .ok (.invokestatic 152, 3) := by decide +kernel
theorem d_Mo_corner_30 : decode b_Mo_corner 30 = .ok (.ifCond .eq 7, 3) := by decide +kernel
theorem d_Mo_corner_33 : decode b_Mo_corner 33 = .ok (.iconst 0, 1) := by decide +kernel
theorem d_Mo_corner_34 : decode b_Mo_corner 34 = .ok (.goto 4, 3) := by decide +kernel
theorem d_Mo_corner_37 : decode b_Mo_corner 37 = .ok (.iconst 1, 1) := by decide +kernel
theorem d_Mo_corner_38 : decode b_Mo_corner 38 = .ok (.putfield 87, 3) := by decide +kernel
theorem d_Mo_corner_41 : decode b_Mo_corner 41 = .ok (.aload_n 0, 1) := by decide +kernel
theorem d_Mo_corner_42 : decode b_Mo_corner 42 = .ok (.getfield 87, 3) := by decide +kernel
theorem d_Mo_corner_45 : decode b_Mo_corner 45 = .ok (.ifCond .le 5, 3) := by decide +kernel
theorem d_Mo_corner_48 : decode b_Mo_corner 48 = .ok (.iconst 0, 1) := by decide +kernel
theorem d_Mo_corner_49 : decode b_Mo_corner 49 = .ok (.ireturn, 1) := by decide +kernel
theorem d_Mo_corner_50 : decode b_Mo_corner 50 = .ok (.iload_n 2, 1) := by decide +kernel
theorem d_Mo_corner_51 : decode b_Mo_corner 51 = .ok (.iconst 2, 1) := by decide +kernel
theorem d_Mo_corner_52 : decode b_Mo_corner 52 = .ok (.if_icmp .ge 12, 3) := by decide +kernel
theorem d_Mo_corner_55 : decode b_Mo_corner 55 = .ok (.aload_n 0, 1) := by decide +kernel
theorem d_Mo_corner_56 : decode b_Mo_corner 56 = .ok (.getfield 19, 3) := by decide +kernel
theorem d_Mo_corner_59 : decode b_Mo_corner 59 = .ok (.iload_n 1, 1) := by decide +kernel
theorem d_Mo_corner_60 : decode b_Mo_corner 60 = .ok (.iaload, 1) := by decide +kernel
theorem d_Mo_corner_61 : decode b_Mo_corner 61 = .ok (.goto 10, 3) := by decide +kernel
theorem d_Mo_corner_64 : decode b_Mo_corner 64 = .ok (.aload_n 0, 1) := by decide +kernel
theorem d_Mo_corner_65 : decode b_Mo_corner 65 = .ok (.getfield 22, 3) := by decide +kernel
theorem d_Mo_corner_68 : decode b_Mo_corner 68 = .ok (.iload_n 1, 1) := by decide +kernel
theorem d_Mo_corner_69 : decode b_Mo_corner 69 = .ok (.iaload, 1) := by decide +kernel
theorem d_Mo_corner_70 : decode b_Mo_corner 70 = .ok (.ineg, 1) := by decide +kernel
theorem d_Mo_corner_71 : decode b_Mo_corner 71 = .ok (.istore 4, 2) := by decide +kernel
theorem d_Mo_corner_73 : decode b_Mo_corner 73 = .ok (.iload_n 2, 1) := by decide +kernel
theorem d_Mo_corner_74 : decode b_Mo_corner 74 = .ok (.ifCond .eq 8, 3) := by decide +kernel
theorem d_Mo_corner_77 : decode b_Mo_corner 77 = .ok (.iload_n 2, 1) := by decide +kernel
theorem d_Mo_corner_78 : decode b_Mo_corner 78 = .ok (.iconst 3, 1) := by decide +kernel
theorem d_Mo_corner_79 : decode b_Mo_corner 79 = .ok (.if_icmp .ne 12, 3) := by decide +kernel
theorem d_Mo_corner_82 : decode b_Mo_corner 82 = .ok (.aload_n 0, 1) := by decide +kernel
theorem d_Mo_corner_83 : decode b_Mo_corner 83 = .ok (.getfield 25, 3) := by decide +kernel
theorem d_Mo_corner_86 : decode b_Mo_corner 86 = .ok (.iload_n 1, 1) := by decide +kernel
theorem d_Mo_corner_87 : decode b_Mo_corner 87 = .ok (.iaload, 1) := by decide +kernel
theorem d_Mo_corner_88 : decode b_Mo_corner 88 = .ok (.goto 10, 3) := by decide +kernel
theorem d_Mo_corner_91 : decode b_Mo_corner 91 = .ok (.aload_n 0, 1) := by decide +kernel
theorem d_Mo_corner_92 : decode b_Mo_corner 92 = .ok (.getfield 25, 3) := by decide +kernel
theorem d_Mo_corner_95 : decode b_Mo_corner 95 = .ok (.iload_n 1, 1) := by decide +kernel
theorem d_Mo_corner_96 : decode b_Mo_corner 96 = .ok (.iaload, 1) := by decide +kernel
theorem d_Mo_corner_97 : decode b_Mo_corner 97 = .ok (.ineg, 1) := by decide +kernel
theorem d_Mo_corner_98 : decode b_Mo_corner 98 = .ok (.istore 5, 2) := by decide +kernel
theorem d_Mo_corner_100 : decode b_Mo_corner 100 = .ok (.aload_n 0, 1) := by decide +kernel
theorem d_Mo_corner_101 : decode b_Mo_corner 101 = .ok (.aload_n 0, 1) := by decide +kernel
theorem d_Mo_corner_102 : decode b_Mo_corner 102 = .ok (.getfield 57, 3) := by decide +kernel
theorem d_Mo_corner_105 : decode b_Mo_corner 105 = .ok (.iload_n 1, 1) := by decide +kernel
theorem d_Mo_corner_106 : decode b_Mo_corner 106 = .ok (.iaload, 1) := by decide +kernel
theorem d_Mo_corner_107 : decode b_Mo_corner 107 = .ok (.invokevirtual 90, 3) := by decide +kernel
theorem d_Mo_corner_110 : decode b_Mo_corner 110 = .ok (.istore 6, 2) := by decide +kernel
theorem d_Mo_corner_112 : decode b_Mo_corner 112 = .ok (.aload_n 0, 1) := by decide +kernel
theorem d_Mo_corner_113 : decode b_Mo_corner 113 = .ok (.aload_n 0, 1) := by decide +kernel
theorem d_Mo_corner_114 : decode b_Mo_corner 114 = .ok (.getfield 57, 3) := by decide +kernel
theorem d_Mo_corner_117 : decode b_Mo_corner 117 = .ok (.iload_n 1, 1) := by decide +kernel
theorem d_Mo_corner_118 : decode b_Mo_corner 118 = .ok (.iaload, 1) := by decide +kernel
theorem d_Mo_corner_119 : decode b_Mo_corner 119 = .ok (.invokevirtual 97, 3) := by decide +kernel
theorem d_Mo_corner_122 : decode b_Mo_corner 122 = .ok (.istore 7, 2) := by decide +kernel
theorem d_Mo_corner_124 : decode b_Mo_corner 124 = .ok (.iload_n 3, 1) := by decide +kernel
theorem d_Mo_corner_125 : decode b_Mo_corner 125 = .ok (.ifCond .ne 24, 3) := by decide +kernel
theorem d_Mo_corner_128 : decode b_Mo_corner 128 = .ok (.aload_n 0, 1) := by decide +kernel
theorem d_Mo_corner_129 : decode b_Mo_corner 129 = .ok (.getfield 51, 3) := by decide +kernel
theorem d_Mo_corner_132 : decode b_Mo_corner 132 = .ok (.iload_n 1, 1) := by decide +kernel
theorem d_Mo_corner_133 : decode b_Mo_corner 133 = .ok (.iaload, 1) := by decide +kernel
theorem d_Mo_corner_134 : decode b_Mo_corner 134 = .ok (.iload 4, 2) := by decide +kernel
theorem d_Mo_corner_136 : decode b_Mo_corner 136 = .ok (.iload 6, 2) := by decide +kernel
theorem d_Mo_corner_138 : decode b_Mo_corner 138 = .ok (.imul, 1) := by decide +kernel
theorem d_Mo_corner_139 : decode b_Mo_corner 139 = .ok (.iadd, 1) := by decide +kernel
theorem d_Mo_corner_140 : decode b_Mo_corner 140 = .ok (.iload 5, 2) := by decide +kernel
theorem d_Mo_corner_142 : decode b_Mo_corner 142 = .ok (.iload 7, 2) := by decide +kernel
theorem d_Mo_corner_144 : decode b_Mo_corner 144 = .ok (.imul, 1) := by decide +kernel
theorem d_Mo_corner_145 : decode b_Mo_corner 145 = .ok (.isub, 1) := by decide +kernel
theorem d_Mo_corner_146 : decode b_Mo_corner 146 = .ok (.goto 21, 3) := by decide +kernel
theorem d_Mo_corner_149 : decode b_Mo_corner 149 = .ok (.aload_n 0, 1) := by decide +kernel
theorem d_Mo_corner_150 : decode b_Mo_corner 150 = .ok (.getfield 54, 3) := by decide +kernel
theorem d_Mo_corner_153 : decode b_Mo_corner 153 = .ok (.iload_n 1, 1) := by decide +kernel
theorem d_Mo_corner_154 : decode b_Mo_corner 154 = .ok (.iaload, 1) := by decide +kernel
theorem d_Mo_corner_155 : decode b_Mo_corner 155 = .ok (.iload 4, 2) := by decide +kernel
theorem d_Mo_corner_157 : decode b_Mo_corner 157 = .ok (.iload 7, 2) := by decide +kernel
theorem d_Mo_corner_159 : decode b_Mo_corner 159 = .ok (.imul, 1) := by decide +kernel
theorem d_Mo_corner_160 : decode b_Mo_corner 160 = .ok (.iadd, 1) := by decide +kernel
theorem d_Mo_corner_161 : decode b_Mo_corner 161 = .ok (.iload 5, 2) := by decide +kernel
theorem d_Mo_corner_163 : decode b_Mo_corner 163 = .ok (.iload 6, 2) := by decide +kernel
theorem d_Mo_corner_165 : decode b_Mo_corner 165 = .ok (.imul, 1) := by decide +kernel
theorem d_Mo_corner_166 : decode b_Mo_corner 166 = .ok (.iadd, 1) := by decide +kernel
theorem d_Mo_corner_167 : decode b_Mo_corner 167 = .ok (.ireturn, 1) := by decide +kernel
theorem d_Mo_swept_0 : decode b_Mo_swept 0 = .ok (.aload_n 0, 1) := by decide +kernel
theorem d_Mo_swept_1 : decode b_Mo_swept 1 = .ok (.iconst 0, 1) := by decide +kernel
theorem d_Mo_swept_2 : decode b_Mo_swept 2 = .ok (.putfield 87, 3) := by decide +kernel
theorem d_Mo_swept_5 : decode b_Mo_swept 5 = .ok (.aload_n 0, 1) := by decide +kernel
theorem d_Mo_swept_6 : decode b_Mo_swept 6 = .ok (.getfield 116, 3) := by decide +kernel
theorem d_Mo_swept_9 : decode b_Mo_swept 9 = .ok (.ireturn, 1) := by decide +kernel
theorem d_Mo_cell_0 : decode b_Mo_cell 0 = .ok (.aload_n 0, 1) := by decide +kernel
theorem d_Mo_cell_1 : decode b_Mo_cell 1 = .ok (.iload_n 1, 1) := by decide +kernel
theorem d_Mo_cell_2 : decode b_Mo_cell 2 = .ok (.bipush (-32), 2) := by decide +kernel
theorem d_Mo_cell_4 : decode b_Mo_cell 4 = .ok (.bipush 31, 2) := by decide +kernel
theorem d_Mo_cell_6 : decode b_Mo_cell 6 = .ok (.invokestatic 152, 3) := by decide +kernel
theorem d_Mo_cell_9 : decode b_Mo_cell 9 = .ok (.ifCond .eq 18, 3) := by decide +kernel
theorem d_Mo_cell_12 : decode b_Mo_cell 12 = .ok (.iload_n 2, 1) := by decide +kernel
theorem d_Mo_cell_13 : decode b_Mo_cell 13 = .ok (.bipush (-32), 2) := by decide +kernel
theorem d_Mo_cell_15 : decode b_Mo_cell 15 = .ok (.bipush 31, 2) := by decide +kernel
theorem d_Mo_cell_17 : decode b_Mo_cell 17 = .ok (.invokestatic 152, 3) := by decide +kernel
theorem d_Mo_cell_20 : decode b_Mo_cell 20 = .ok (.ifCond .eq 7, 3) := by decide +kernel
theorem d_Mo_cell_23 : decode b_Mo_cell 23 = .ok (.iconst 0, 1) := by decide +kernel
theorem d_Mo_cell_24 : decode b_Mo_cell 24 = .ok (.goto 4, 3) := by decide +kernel
theorem d_Mo_cell_27 : decode b_Mo_cell 27 = .ok (.iconst 1, 1) := by decide +kernel
theorem d_Mo_cell_28 : decode b_Mo_cell 28 = .ok (.putfield 87, 3) := by decide +kernel
theorem d_Mo_cell_31 : decode b_Mo_cell 31 = .ok (.aload_n 0, 1) := by decide +kernel
theorem d_Mo_cell_32 : decode b_Mo_cell 32 = .ok (.getfield 87, 3) := by decide +kernel
theorem d_Mo_cell_35 : decode b_Mo_cell 35 = .ok (.ifCond .ne 27, 3) := by decide +kernel
theorem d_Mo_cell_38 : decode b_Mo_cell 38 = .ok (.aload_n 0, 1) := by decide +kernel
theorem d_Mo_cell_39 : decode b_Mo_cell 39 = .ok (.getfield 75, 3) := by decide +kernel
theorem d_Mo_cell_42 : decode b_Mo_cell 42 = .ok (.bipush 64, 2) := by decide +kernel
theorem d_Mo_cell_44 : decode b_Mo_cell 44 = .ok (.iload_n 1, 1) := by decide +kernel
theorem d_Mo_cell_45 : decode b_Mo_cell 45 = .ok (.bipush 32, 2) := by decide +kernel
