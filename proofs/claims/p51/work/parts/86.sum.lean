/-! L_sum -/
theorem dL_sum_0 : decode cL_sum 0 = .ok (.lconst 0, 1) := by decide +kernel
theorem dL_sum_1 : decode cL_sum 1 = .ok (.lstore_n 1, 1) := by decide +kernel
theorem dL_sum_2 : decode cL_sum 2 = .ok (.iconst 0, 1) := by decide +kernel
theorem dL_sum_3 : decode cL_sum 3 = .ok (.istore_n 3, 1) := by decide +kernel
theorem dL_sum_4 : decode cL_sum 4 = .ok (.iload_n 3, 1) := by decide +kernel
theorem dL_sum_5 : decode cL_sum 5 = .ok (.bipush 15, 2) := by decide +kernel
theorem dL_sum_7 : decode cL_sum 7 = .ok (.if_icmp .ge 22, 3) := by decide +kernel
theorem dL_sum_10 : decode cL_sum 10 = .ok (.ldc2_w 54, 3) := by decide +kernel
theorem dL_sum_13 : decode cL_sum 13 = .ok (.lload_n 1, 1) := by decide +kernel
theorem dL_sum_14 : decode cL_sum 14 = .ok (.lmul, 1) := by decide +kernel
theorem dL_sum_15 : decode cL_sum 15 = .ok (.aload_n 0, 1) := by decide +kernel
theorem dL_sum_16 : decode cL_sum 16 = .ok (.iload_n 3, 1) := by decide +kernel
theorem dL_sum_17 : decode cL_sum 17 = .ok (.invokevirtual 56, 3) := by decide +kernel
theorem dL_sum_20 : decode cL_sum 20 = .ok (.i2l, 1) := by decide +kernel
theorem dL_sum_21 : decode cL_sum 21 = .ok (.ladd, 1) := by decide +kernel
theorem dL_sum_22 : decode cL_sum 22 = .ok (.lstore_n 1, 1) := by decide +kernel
theorem dL_sum_23 : decode cL_sum 23 = .ok (.iinc 3 1, 3) := by decide +kernel
theorem dL_sum_26 : decode cL_sum 26 = .ok (.goto (-22), 3) := by decide +kernel
theorem dL_sum_29 : decode cL_sum 29 = .ok (.iconst 0, 1) := by decide +kernel
theorem dL_sum_30 : decode cL_sum 30 = .ok (.istore_n 3, 1) := by decide +kernel
theorem dL_sum_31 : decode cL_sum 31 = .ok (.iload_n 3, 1) := by decide +kernel
theorem dL_sum_32 : decode cL_sum 32 = .ok (.bipush 12, 2) := by decide +kernel
theorem dL_sum_34 : decode cL_sum 34 = .ok (.if_icmp .ge 22, 3) := by decide +kernel
theorem dL_sum_37 : decode cL_sum 37 = .ok (.ldc2_w 54, 3) := by decide +kernel
theorem dL_sum_40 : decode cL_sum 40 = .ok (.lload_n 1, 1) := by decide +kernel
theorem dL_sum_41 : decode cL_sum 41 = .ok (.lmul, 1) := by decide +kernel
theorem dL_sum_42 : decode cL_sum 42 = .ok (.aload_n 0, 1) := by decide +kernel
theorem dL_sum_43 : decode cL_sum 43 = .ok (.iload_n 3, 1) := by decide +kernel
theorem dL_sum_44 : decode cL_sum 44 = .ok (.invokevirtual 59, 3) := by decide +kernel
theorem dL_sum_47 : decode cL_sum 47 = .ok (.i2l, 1) := by decide +kernel
theorem dL_sum_48 : decode cL_sum 48 = .ok (.ladd, 1) := by decide +kernel
theorem dL_sum_49 : decode cL_sum 49 = .ok (.lstore_n 1, 1) := by decide +kernel
theorem dL_sum_50 : decode cL_sum 50 = .ok (.iinc 3 1, 3) := by decide +kernel
theorem dL_sum_53 : decode cL_sum 53 = .ok (.goto (-22), 3) := by decide +kernel
theorem dL_sum_56 : decode cL_sum 56 = .ok (.iconst 0, 1) := by decide +kernel
theorem dL_sum_57 : decode cL_sum 57 = .ok (.istore_n 3, 1) := by decide +kernel
theorem dL_sum_58 : decode cL_sum 58 = .ok (.iload_n 3, 1) := by decide +kernel
theorem dL_sum_59 : decode cL_sum 59 = .ok (.aload_n 0, 1) := by decide +kernel
theorem dL_sum_60 : decode cL_sum 60 = .ok (.iconst 0, 1) := by decide +kernel
theorem dL_sum_61 : decode cL_sum 61 = .ok (.invokevirtual 56, 3) := by decide +kernel
theorem dL_sum_64 : decode cL_sum 64 = .ok (.if_icmp .ge 40, 3) := by decide +kernel
theorem dL_sum_67 : decode cL_sum 67 = .ok (.iconst 0, 1) := by decide +kernel
theorem dL_sum_68 : decode cL_sum 68 = .ok (.istore 4, 2) := by decide +kernel
theorem dL_sum_70 : decode cL_sum 70 = .ok (.iload 4, 2) := by decide +kernel
theorem dL_sum_72 : decode cL_sum 72 = .ok (.bipush 9, 2) := by decide +kernel
theorem dL_sum_74 : decode cL_sum 74 = .ok (.if_icmp .ge 24, 3) := by decide +kernel
theorem dL_sum_77 : decode cL_sum 77 = .ok (.ldc2_w 54, 3) := by decide +kernel
theorem dL_sum_80 : decode cL_sum 80 = .ok (.lload_n 1, 1) := by decide +kernel
theorem dL_sum_81 : decode cL_sum 81 = .ok (.lmul, 1) := by decide +kernel
theorem dL_sum_82 : decode cL_sum 82 = .ok (.aload_n 0, 1) := by decide +kernel
theorem dL_sum_83 : decode cL_sum 83 = .ok (.iload_n 3, 1) := by decide +kernel
theorem dL_sum_84 : decode cL_sum 84 = .ok (.iload 4, 2) := by decide +kernel
theorem dL_sum_86 : decode cL_sum 86 = .ok (.invokevirtual 62, 3) := by decide +kernel
theorem dL_sum_89 : decode cL_sum 89 = .ok (.i2l, 1) := by decide +kernel
theorem dL_sum_90 : decode cL_sum 90 = .ok (.ladd, 1) := by decide +kernel
theorem dL_sum_91 : decode cL_sum 91 = .ok (.lstore_n 1, 1) := by decide +kernel
theorem dL_sum_92 : decode cL_sum 92 = .ok (.iinc 4 1, 3) := by decide +kernel
theorem dL_sum_95 : decode cL_sum 95 = .ok (.goto (-25), 3) := by decide +kernel
theorem dL_sum_98 : decode cL_sum 98 = .ok (.iinc 3 1, 3) := by decide +kernel
theorem dL_sum_101 : decode cL_sum 101 = .ok (.goto (-43), 3) := by decide +kernel
theorem dL_sum_104 : decode cL_sum 104 = .ok (.iconst 0, 1) := by decide +kernel
theorem dL_sum_105 : decode cL_sum 105 = .ok (.istore_n 3, 1) := by decide +kernel
theorem dL_sum_106 : decode cL_sum 106 = .ok (.iload_n 3, 1) := by decide +kernel
theorem dL_sum_107 : decode cL_sum 107 = .ok (.aload_n 0, 1) := by decide +kernel
theorem dL_sum_108 : decode cL_sum 108 = .ok (.iconst 1, 1) := by decide +kernel
theorem dL_sum_109 : decode cL_sum 109 = .ok (.invokevirtual 56, 3) := by decide +kernel
theorem dL_sum_112 : decode cL_sum 112 = .ok (.if_icmp .ge 105, 3) := by decide +kernel
theorem dL_sum_115 : decode cL_sum 115 = .ok (.iconst 0, 1) := by decide +kernel
theorem dL_sum_116 : decode cL_sum 116 = .ok (.istore 4, 2) := by decide +kernel
theorem dL_sum_118 : decode cL_sum 118 = .ok (.iload 4, 2) := by decide +kernel
theorem dL_sum_120 : decode cL_sum 120 = .ok (.bipush 9, 2) := by decide +kernel
theorem dL_sum_122 : decode cL_sum 122 = .ok (.if_icmp .ge 24, 3) := by decide +kernel
theorem dL_sum_125 : decode cL_sum 125 = .ok (.ldc2_w 54, 3) := by decide +kernel
theorem dL_sum_128 : decode cL_sum 128 = .ok (.lload_n 1, 1) := by decide +kernel
theorem dL_sum_129 : decode cL_sum 129 = .ok (.lmul, 1) := by decide +kernel
theorem dL_sum_130 : decode cL_sum 130 = .ok (.aload_n 0, 1) := by decide +kernel
theorem dL_sum_131 : decode cL_sum 131 = .ok (.iload_n 3, 1) := by decide +kernel
theorem dL_sum_132 : decode cL_sum 132 = .ok (.iload 4, 2) := by decide +kernel
theorem dL_sum_134 : decode cL_sum 134 = .ok (.invokevirtual 66, 3) := by decide +kernel
theorem dL_sum_137 : decode cL_sum 137 = .ok (.i2l, 1) := by decide +kernel
theorem dL_sum_138 : decode cL_sum 138 = .ok (.ladd, 1) := by decide +kernel
theorem dL_sum_139 : decode cL_sum 139 = .ok (.lstore_n 1, 1) := by decide +kernel
theorem dL_sum_140 : decode cL_sum 140 = .ok (.iinc 4 1, 3) := by decide +kernel
theorem dL_sum_143 : decode cL_sum 143 = .ok (.goto (-25), 3) := by decide +kernel
theorem dL_sum_146 : decode cL_sum 146 = .ok (.iconst 0, 1) := by decide +kernel
theorem dL_sum_147 : decode cL_sum 147 = .ok (.istore 4, 2) := by decide +kernel
theorem dL_sum_149 : decode cL_sum 149 = .ok (.iload 4, 2) := by decide +kernel
theorem dL_sum_151 : decode cL_sum 151 = .ok (.bipush 7, 2) := by decide +kernel
theorem dL_sum_153 : decode cL_sum 153 = .ok (.if_icmp .ge 24, 3) := by decide +kernel
theorem dL_sum_156 : decode cL_sum 156 = .ok (.ldc2_w 54, 3) := by decide +kernel
theorem dL_sum_159 : decode cL_sum 159 = .ok (.lload_n 1, 1) := by decide +kernel
theorem dL_sum_160 : decode cL_sum 160 = .ok (.lmul, 1) := by decide +kernel
theorem dL_sum_161 : decode cL_sum 161 = .ok (.aload_n 0, 1) := by decide +kernel
theorem dL_sum_162 : decode cL_sum 162 = .ok (.iload_n 3, 1) := by decide +kernel
theorem dL_sum_163 : decode cL_sum 163 = .ok (.iload 4, 2) := by decide +kernel
theorem dL_sum_165 : decode cL_sum 165 = .ok (.invokevirtual 69, 3) := by decide +kernel
theorem dL_sum_168 : decode cL_sum 168 = .ok (.i2l, 1) := by decide +kernel
theorem dL_sum_169 : decode cL_sum 169 = .ok (.ladd, 1) := by decide +kernel
theorem dL_sum_170 : decode cL_sum 170 = .ok (.lstore_n 1, 1) := by decide +kernel
theorem dL_sum_171 : decode cL_sum 171 = .ok (.iinc 4 1, 3) := by decide +kernel
theorem dL_sum_174 : decode cL_sum 174 = .ok (.goto (-25), 3) := by decide +kernel
theorem dL_sum_177 : decode cL_sum 177 = .ok (.iconst 0, 1) := by decide +kernel
theorem dL_sum_178 : decode cL_sum 178 = .ok (.istore 4, 2) := by decide +kernel
theorem dL_sum_180 : decode cL_sum 180 = .ok (.iload 4, 2) := by decide +kernel
theorem dL_sum_182 : decode cL_sum 182 = .ok (.bipush 40, 2) := by decide +kernel
theorem dL_sum_184 : decode cL_sum 184 = .ok (.if_icmp .ge 27, 3) := by decide +kernel
theorem dL_sum_187 : decode cL_sum 187 = .ok (.ldc2_w 54, 3) := by decide +kernel
theorem dL_sum_190 : decode cL_sum 190 = .ok (.lload_n 1, 1) := by decide +kernel
theorem dL_sum_191 : decode cL_sum 191 = .ok (.lmul, 1) := by decide +kernel
theorem dL_sum_192 : decode cL_sum 192 = .ok (.aload_n 0, 1) := by decide +kernel
theorem dL_sum_193 : decode cL_sum 193 = .ok (.iload_n 3, 1) := by decide +kernel
theorem dL_sum_194 : decode cL_sum 194 = .ok (.bipush 7, 2) := by decide +kernel
theorem dL_sum_196 : decode cL_sum 196 = .ok (.iload 4, 2) := by decide +kernel
theorem dL_sum_198 : decode cL_sum 198 = .ok (.imul, 1) := by decide +kernel
theorem dL_sum_199 : decode cL_sum 199 = .ok (.invokevirtual 72, 3) := by decide +kernel
theorem dL_sum_202 : decode cL_sum 202 = .ok (.i2l, 1) := by decide +kernel
theorem dL_sum_203 : decode cL_sum 203 = .ok (.ladd, 1) := by decide +kernel
theorem dL_sum_204 : decode cL_sum 204 = .ok (.lstore_n 1, 1) := by decide +kernel
theorem dL_sum_205 : decode cL_sum 205 = .ok (.iinc 4 1, 3) := by decide +kernel
theorem dL_sum_208 : decode cL_sum 208 = .ok (.goto (-28), 3) := by decide +kernel
theorem dL_sum_211 : decode cL_sum 211 = .ok (.iinc 3 1, 3) := by decide +kernel
theorem dL_sum_214 : decode cL_sum 214 = .ok (.goto (-108), 3) := by decide +kernel
theorem dL_sum_217 : decode cL_sum 217 = .ok (.iconst 0, 1) := by decide +kernel
theorem dL_sum_218 : decode cL_sum 218 = .ok (.istore_n 3, 1) := by decide +kernel
theorem dL_sum_219 : decode cL_sum 219 = .ok (.iload_n 3, 1) := by decide +kernel
theorem dL_sum_220 : decode cL_sum 220 = .ok (.aload_n 0, 1) := by decide +kernel
theorem dL_sum_221 : decode cL_sum 221 = .ok (.bipush 8, 2) := by decide +kernel
theorem dL_sum_223 : decode cL_sum 223 = .ok (.invokevirtual 56, 3) := by decide +kernel
theorem dL_sum_226 : decode cL_sum 226 = .ok (.if_icmp .ge 46, 3) := by decide +kernel
theorem dL_sum_229 : decode cL_sum 229 = .ok (.iload_n 3, 1) := by decide +kernel
theorem dL_sum_230 : decode cL_sum 230 = .ok (.bipush 9, 2) := by decide +kernel
theorem dL_sum_232 : decode cL_sum 232 = .ok (.if_icmp .ge 40, 3) := by decide +kernel
theorem dL_sum_235 : decode cL_sum 235 = .ok (.iconst 0, 1) := by decide +kernel
theorem dL_sum_236 : decode cL_sum 236 = .ok (.istore 4, 2) := by decide +kernel
theorem dL_sum_238 : decode cL_sum 238 = .ok (.iload 4, 2) := by decide +kernel
theorem dL_sum_240 : decode cL_sum 240 = .ok (.bipush 7, 2) := by decide +kernel
theorem dL_sum_242 : decode cL_sum 242 = .ok (.if_icmp .ge 24, 3) := by decide +kernel
theorem dL_sum_245 : decode cL_sum 245 = .ok (.ldc2_w 54, 3) := by decide +kernel
theorem dL_sum_248 : decode cL_sum 248 = .ok (.lload_n 1, 1) := by decide +kernel
theorem dL_sum_249 : decode cL_sum 249 = .ok (.lmul, 1) := by decide +kernel
theorem dL_sum_250 : decode cL_sum 250 = .ok (.aload_n 0, 1) := by decide +kernel
theorem dL_sum_251 : decode cL_sum 251 = .ok (.iload_n 3, 1) := by decide +kernel
theorem dL_sum_252 : decode cL_sum 252 = .ok (.iload 4, 2) := by decide +kernel
theorem dL_sum_254 : decode cL_sum 254 = .ok (.invokevirtual 75, 3) := by decide +kernel
theorem dL_sum_257 : decode cL_sum 257 = .ok (.i2l, 1) := by decide +kernel
theorem dL_sum_258 : decode cL_sum 258 = .ok (.ladd, 1) := by decide +kernel
theorem dL_sum_259 : decode cL_sum 259 = .ok (.lstore_n 1, 1) := by decide +kernel
theorem dL_sum_260 : decode cL_sum 260 = .ok (.iinc 4 1, 3) := by decide +kernel
theorem dL_sum_263 : decode cL_sum 263 = .ok (.goto (-25), 3) := by decide +kernel
theorem dL_sum_266 : decode cL_sum 266 = .ok (.iinc 3 1, 3) := by decide +kernel
theorem dL_sum_269 : decode cL_sum 269 = .ok (.goto (-50), 3) := by decide +kernel
theorem dL_sum_272 : decode cL_sum 272 = .ok (.lload_n 1, 1) := by decide +kernel
theorem dL_sum_273 : decode cL_sum 273 = .ok (.lreturn, 1) := by decide +kernel
/-! L_counts -/
theorem dL_counts_0 : decode cL_counts 0 = .ok (.bipush 9, 2) := by decide +kernel
theorem dL_counts_2 : decode cL_counts 2 = .ok (.newarray .int, 2) := by decide +kernel
theorem dL_counts_4 : decode cL_counts 4 = .ok (.astore_n 1, 1) := by decide +kernel
theorem dL_counts_5 : decode cL_counts 5 = .ok (.iconst 0, 1) := by decide +kernel
theorem dL_counts_6 : decode cL_counts 6 = .ok (.istore_n 2, 1) := by decide +kernel
theorem dL_counts_7 : decode cL_counts 7 = .ok (.iload_n 2, 1) := by decide +kernel
theorem dL_counts_8 : decode cL_counts 8 = .ok (.aload_n 0, 1) := by decide +kernel
theorem dL_counts_9 : decode cL_counts 9 = .ok (.iconst 0, 1) := by decide +kernel
theorem dL_counts_10 : decode cL_counts 10 = .ok (.invokevirtual 56, 3) := by decide +kernel
theorem dL_counts_13 : decode cL_counts 13 = .ok (.if_icmp .ge 35, 3) := by decide +kernel
theorem dL_counts_16 : decode cL_counts 16 = .ok (.iconst 3, 1) := by decide +kernel
theorem dL_counts_17 : decode cL_counts 17 = .ok (.istore_n 3, 1) := by decide +kernel
theorem dL_counts_18 : decode cL_counts 18 = .ok (.iload_n 3, 1) := by decide +kernel
theorem dL_counts_19 : decode cL_counts 19 = .ok (.bipush 8, 2) := by decide +kernel
theorem dL_counts_21 : decode cL_counts 21 = .ok (.if_icmp .ge 21, 3) := by decide +kernel
theorem dL_counts_24 : decode cL_counts 24 = .ok (.aload_n 1, 1) := by decide +kernel
theorem dL_counts_25 : decode cL_counts 25 = .ok (.iload_n 3, 1) := by decide +kernel
theorem dL_counts_26 : decode cL_counts 26 = .ok (.dup2, 1) := by decide +kernel
theorem dL_counts_27 : decode cL_counts 27 = .ok (.iaload, 1) := by decide +kernel
theorem dL_counts_28 : decode cL_counts 28 = .ok (.aload_n 0, 1) := by decide +kernel
theorem dL_counts_29 : decode cL_counts 29 = .ok (.iload_n 2, 1) := by decide +kernel
theorem dL_counts_30 : decode cL_counts 30 = .ok (.iload_n 3, 1) := by decide +kernel
theorem dL_counts_31 : decode cL_counts 31 = .ok (.invokevirtual 62, 3) := by decide +kernel
theorem dL_counts_34 : decode cL_counts 34 = .ok (.iadd, 1) := by decide +kernel
theorem dL_counts_35 : decode cL_counts 35 = .ok (.iastore, 1) := by decide +kernel
theorem dL_counts_36 : decode cL_counts 36 = .ok (.iinc 3 1, 3) := by decide +kernel
theorem dL_counts_39 : decode cL_counts 39 = .ok (.goto (-21), 3) := by decide +kernel
theorem dL_counts_42 : decode cL_counts 42 = .ok (.iinc 2 1, 3) := by decide +kernel
theorem dL_counts_45 : decode cL_counts 45 = .ok (.goto (-38), 3) := by decide +kernel
theorem dL_counts_48 : decode cL_counts 48 = .ok (.aload_n 1, 1) := by decide +kernel
theorem dL_counts_49 : decode cL_counts 49 = .ok (.iconst 3, 1) := by decide +kernel
theorem dL_counts_50 : decode cL_counts 50 = .ok (.iaload, 1) := by decide +kernel
theorem dL_counts_51 : decode cL_counts 51 = .ok (.aload_n 0, 1) := by decide +kernel
theorem dL_counts_52 : decode cL_counts 52 = .ok (.iconst 0, 1) := by decide +kernel
theorem dL_counts_53 : decode cL_counts 53 = .ok (.invokevirtual 59, 3) := by decide +kernel
theorem dL_counts_56 : decode cL_counts 56 = .ok (.if_icmp .ne 69, 3) := by decide +kernel
theorem dL_counts_59 : decode cL_counts 59 = .ok (.aload_n 1, 1) := by decide +kernel
theorem dL_counts_60 : decode cL_counts 60 = .ok (.iconst 4, 1) := by decide +kernel
theorem dL_counts_61 : decode cL_counts 61 = .ok (.iaload, 1) := by decide +kernel
theorem dL_counts_62 : decode cL_counts 62 = .ok (.aload_n 0, 1) := by decide +kernel
theorem dL_counts_63 : decode cL_counts 63 = .ok (.bipush 8, 2) := by decide +kernel
theorem dL_counts_65 : decode cL_counts 65 = .ok (.invokevirtual 56, 3) := by decide +kernel
theorem dL_counts_68 : decode cL_counts 68 = .ok (.if_icmp .ne 57, 3) := by decide +kernel
theorem dL_counts_71 : decode cL_counts 71 = .ok (.aload_n 1, 1) := by decide +kernel
theorem dL_counts_72 : decode cL_counts 72 = .ok (.iconst 5, 1) := by decide +kernel
theorem dL_counts_73 : decode cL_counts 73 = .ok (.iaload, 1) := by decide +kernel
theorem dL_counts_74 : decode cL_counts 74 = .ok (.aload_n 0, 1) := by decide +kernel
theorem dL_counts_75 : decode cL_counts 75 = .ok (.iconst 1, 1) := by decide +kernel
theorem dL_counts_76 : decode cL_counts 76 = .ok (.invokevirtual 59, 3) := by decide +kernel
theorem dL_counts_79 : decode cL_counts 79 = .ok (.if_icmp .ne 46, 3) := by decide +kernel
theorem dL_counts_82 : decode cL_counts 82 = .ok (.aload_n 1, 1) := by decide +kernel
theorem dL_counts_83 : decode cL_counts 83 = .ok (.bipush 6, 2) := by decide +kernel
theorem dL_counts_85 : decode cL_counts 85 = .ok (.iaload, 1) := by decide +kernel
theorem dL_counts_86 : decode cL_counts 86 = .ok (.aload_n 0, 1) := by decide +kernel
theorem dL_counts_87 : decode cL_counts 87 = .ok (.iconst 3, 1) := by decide +kernel
theorem dL_counts_88 : decode cL_counts 88 = .ok (.invokevirtual 59, 3) := by decide +kernel
theorem dL_counts_91 : decode cL_counts 91 = .ok (.if_icmp .ne 34, 3) := by decide +kernel
theorem dL_counts_94 : decode cL_counts 94 = .ok (.aload_n 1, 1) := by decide +kernel
theorem dL_counts_95 : decode cL_counts 95 = .ok (.bipush 7, 2) := by decide +kernel
theorem dL_counts_97 : decode cL_counts 97 = .ok (.iaload, 1) := by decide +kernel
theorem dL_counts_98 : decode cL_counts 98 = .ok (.aload_n 0, 1) := by decide +kernel
theorem dL_counts_99 : decode cL_counts 99 = .ok (.iconst 4, 1) := by decide +kernel
theorem dL_counts_100 : decode cL_counts 100 = .ok (.invokevirtual 59, 3) := by decide +kernel
theorem dL_counts_103 : decode cL_counts 103 = .ok (.if_icmp .ne 22, 3) := by decide +kernel
theorem dL_counts_106 : decode cL_counts 106 = .ok (.aload_n 0, 1) := by decide +kernel
theorem dL_counts_107 : decode cL_counts 107 = .ok (.invokevirtual 78, 3) := by decide +kernel
theorem dL_counts_110 : decode cL_counts 110 = .ok (.ifCond .ne 15, 3) := by decide +kernel
theorem dL_counts_113 : decode cL_counts 113 = .ok (.aload_n 0, 1) := by decide +kernel
theorem dL_counts_114 : decode cL_counts 114 = .ok (.bipush 8, 2) := by decide +kernel
theorem dL_counts_116 : decode cL_counts 116 = .ok (.invokevirtual 56, 3) := by decide +kernel
theorem dL_counts_119 : decode cL_counts 119 = .ok (.sipush 300, 3) := by decide +kernel
theorem dL_counts_122 : decode cL_counts 122 = .ok (.if_icmp .le 5, 3) := by decide +kernel
theorem dL_counts_125 : decode cL_counts 125 = .ok (.iconst 0, 1) := by decide +kernel
theorem dL_counts_126 : decode cL_counts 126 = .ok (.ireturn, 1) := by decide +kernel
theorem dL_counts_127 : decode cL_counts 127 = .ok (.iconst 0, 1) := by decide +kernel
theorem dL_counts_128 : decode cL_counts 128 = .ok (.istore_n 2, 1) := by decide +kernel
theorem dL_counts_129 : decode cL_counts 129 = .ok (.iconst 0, 1) := by decide +kernel
theorem dL_counts_130 : decode cL_counts 130 = .ok (.istore_n 3, 1) := by decide +kernel
theorem dL_counts_131 : decode cL_counts 131 = .ok (.iconst 0, 1) := by decide +kernel
theorem dL_counts_132 : decode cL_counts 132 = .ok (.istore 4, 2) := by decide +kernel
theorem dL_counts_134 : decode cL_counts 134 = .ok (.iconst 0, 1) := by decide +kernel
theorem dL_counts_135 : decode cL_counts 135 = .ok (.istore 5, 2) := by decide +kernel
theorem dL_counts_137 : decode cL_counts 137 = .ok (.iconst 0, 1) := by decide +kernel
theorem dL_counts_138 : decode cL_counts 138 = .ok (.istore 6, 2) := by decide +kernel
theorem dL_counts_140 : decode cL_counts 140 = .ok (.iload 6, 2) := by decide +kernel
theorem dL_counts_142 : decode cL_counts 142 = .ok (.aload_n 0, 1) := by decide +kernel
theorem dL_counts_143 : decode cL_counts 143 = .ok (.iconst 1, 1) := by decide +kernel
theorem dL_counts_144 : decode cL_counts 144 = .ok (.invokevirtual 56, 3) := by decide +kernel
theorem dL_counts_147 : decode cL_counts 147 = .ok (.if_icmp .ge 192, 3) := by decide +kernel
theorem dL_counts_150 : decode cL_counts 150 = .ok (.aload_n 0, 1) := by decide +kernel
theorem dL_counts_151 : decode cL_counts 151 = .ok (.iload 6, 2) := by decide +kernel
theorem dL_counts_153 : decode cL_counts 153 = .ok (.iconst 5, 1) := by decide +kernel
theorem dL_counts_154 : decode cL_counts 154 = .ok (.invokevirtual 66, 3) := by decide +kernel
theorem dL_counts_157 : decode cL_counts 157 = .ok (.istore 7, 2) := by decide +kernel
theorem dL_counts_159 : decode cL_counts 159 = .ok (.iload_n 2, 1) := by decide +kernel
theorem dL_counts_160 : decode cL_counts 160 = .ok (.iload 7, 2) := by decide +kernel
theorem dL_counts_162 : decode cL_counts 162 = .ok (.ifCond .ne 7, 3) := by decide +kernel
theorem dL_counts_165 : decode cL_counts 165 = .ok (.iconst 1, 1) := by decide +kernel
theorem dL_counts_166 : decode cL_counts 166 = .ok (.goto 4, 3) := by decide +kernel
theorem dL_counts_169 : decode cL_counts 169 = .ok (.iconst 0, 1) := by decide +kernel
theorem dL_counts_170 : decode cL_counts 170 = .ok (.iadd, 1) := by decide +kernel
theorem dL_counts_171 : decode cL_counts 171 = .ok (.istore_n 2, 1) := by decide +kernel
theorem dL_counts_172 : decode cL_counts 172 = .ok (.iload_n 3, 1) := by decide +kernel
theorem dL_counts_173 : decode cL_counts 173 = .ok (.aload_n 0, 1) := by decide +kernel
theorem dL_counts_174 : decode cL_counts 174 = .ok (.iload 6, 2) := by decide +kernel
theorem dL_counts_176 : decode cL_counts 176 = .ok (.iconst 0, 1) := by decide +kernel
theorem dL_counts_177 : decode cL_counts 177 = .ok (.invokevirtual 69, 3) := by decide +kernel
theorem dL_counts_180 : decode cL_counts 180 = .ok (.ifCond .lt 7, 3) := by decide +kernel
theorem dL_counts_183 : decode cL_counts 183 = .ok (.iconst 1, 1) := by decide +kernel
theorem dL_counts_184 : decode cL_counts 184 = .ok (.goto 4, 3) := by decide +kernel
theorem dL_counts_187 : decode cL_counts 187 = .ok (.iconst 0, 1) := by decide +kernel
theorem dL_counts_188 : decode cL_counts 188 = .ok (.iadd, 1) := by decide +kernel
theorem dL_counts_189 : decode cL_counts 189 = .ok (.istore_n 3, 1) := by decide +kernel
theorem dL_counts_190 : decode cL_counts 190 = .ok (.iload 4, 2) := by decide +kernel
theorem dL_counts_192 : decode cL_counts 192 = .ok (.aload_n 0, 1) := by decide +kernel
theorem dL_counts_193 : decode cL_counts 193 = .ok (.iload 6, 2) := by decide +kernel
theorem dL_counts_195 : decode cL_counts 195 = .ok (.bipush 8, 2) := by decide +kernel
theorem dL_counts_197 : decode cL_counts 197 = .ok (.invokevirtual 66, 3) := by decide +kernel
theorem dL_counts_200 : decode cL_counts 200 = .ok (.iadd, 1) := by decide +kernel
theorem dL_counts_201 : decode cL_counts 201 = .ok (.istore 4, 2) := by decide +kernel
theorem dL_counts_203 : decode cL_counts 203 = .ok (.iload 5, 2) := by decide +kernel
theorem dL_counts_205 : decode cL_counts 205 = .ok (.iload 7, 2) := by decide +kernel
theorem dL_counts_207 : decode cL_counts 207 = .ok (.iconst 1, 1) := by decide +kernel
theorem dL_counts_208 : decode cL_counts 208 = .ok (.if_icmp .ne 13, 3) := by decide +kernel
theorem dL_counts_211 : decode cL_counts 211 = .ok (.aload_n 0, 1) := by decide +kernel
theorem dL_counts_212 : decode cL_counts 212 = .ok (.iload 6, 2) := by decide +kernel
theorem dL_counts_214 : decode cL_counts 214 = .ok (.iconst 0, 1) := by decide +kernel
theorem dL_counts_215 : decode cL_counts 215 = .ok (.invokevirtual 66, 3) := by decide +kernel
theorem dL_counts_218 : decode cL_counts 218 = .ok (.goto 4, 3) := by decide +kernel
theorem dL_counts_221 : decode cL_counts 221 = .ok (.iconst 0, 1) := by decide +kernel
theorem dL_counts_222 : decode cL_counts 222 = .ok (.iadd, 1) := by decide +kernel
theorem dL_counts_223 : decode cL_counts 223 = .ok (.istore 5, 2) := by decide +kernel
theorem dL_counts_225 : decode cL_counts 225 = .ok (.iload 7, 2) := by decide +kernel
theorem dL_counts_227 : decode cL_counts 227 = .ok (.ifCond .eq 13, 3) := by decide +kernel
theorem dL_counts_230 : decode cL_counts 230 = .ok (.aload_n 0, 1) := by decide +kernel
theorem dL_counts_231 : decode cL_counts 231 = .ok (.iload 6, 2) := by decide +kernel
theorem dL_counts_233 : decode cL_counts 233 = .ok (.iconst 0, 1) := by decide +kernel
theorem dL_counts_234 : decode cL_counts 234 = .ok (.invokevirtual 69, 3) := by decide +kernel
theorem dL_counts_237 : decode cL_counts 237 = .ok (.ifCond .ge 73, 3) := by decide +kernel
theorem dL_counts_240 : decode cL_counts 240 = .ok (.iload 7, 2) := by decide +kernel
theorem dL_counts_242 : decode cL_counts 242 = .ok (.ifCond .ne 7, 3) := by decide +kernel
theorem dL_counts_245 : decode cL_counts 245 = .ok (.iconst 1, 1) := by decide +kernel
theorem dL_counts_246 : decode cL_counts 246 = .ok (.goto 4, 3) := by decide +kernel
theorem dL_counts_249 : decode cL_counts 249 = .ok (.iconst 0, 1) := by decide +kernel
theorem dL_counts_250 : decode cL_counts 250 = .ok (.aload_n 0, 1) := by decide +kernel
theorem dL_counts_251 : decode cL_counts 251 = .ok (.iload 6, 2) := by decide +kernel
theorem dL_counts_253 : decode cL_counts 253 = .ok (.bipush 6, 2) := by decide +kernel
theorem dL_counts_255 : decode cL_counts 255 = .ok (.invokevirtual 66, 3) := by decide +kernel
theorem dL_counts_258 : decode cL_counts 258 = .ok (.ifCond .ge 7, 3) := by decide +kernel
theorem dL_counts_261 : decode cL_counts 261 = .ok (.iconst 1, 1) := by decide +kernel
theorem dL_counts_262 : decode cL_counts 262 = .ok (.goto 4, 3) := by decide +kernel
theorem dL_counts_265 : decode cL_counts 265 = .ok (.iconst 0, 1) := by decide +kernel
theorem dL_counts_266 : decode cL_counts 266 = .ok (.if_icmp .ne 44, 3) := by decide +kernel
theorem dL_counts_269 : decode cL_counts 269 = .ok (.iload 7, 2) := by decide +kernel
theorem dL_counts_271 : decode cL_counts 271 = .ok (.iconst 3, 1) := by decide +kernel
theorem dL_counts_272 : decode cL_counts 272 = .ok (.if_icmp .ne 7, 3) := by decide +kernel
theorem dL_counts_275 : decode cL_counts 275 = .ok (.iconst 1, 1) := by decide +kernel
theorem dL_counts_276 : decode cL_counts 276 = .ok (.goto 4, 3) := by decide +kernel
theorem dL_counts_279 : decode cL_counts 279 = .ok (.iconst 0, 1) := by decide +kernel
theorem dL_counts_280 : decode cL_counts 280 = .ok (.aload_n 0, 1) := by decide +kernel
theorem dL_counts_281 : decode cL_counts 281 = .ok (.iload 6, 2) := by decide +kernel
theorem dL_counts_283 : decode cL_counts 283 = .ok (.bipush 7, 2) := by decide +kernel
theorem dL_counts_285 : decode cL_counts 285 = .ok (.invokevirtual 66, 3) := by decide +kernel
theorem dL_counts_288 : decode cL_counts 288 = .ok (.ifCond .le 7, 3) := by decide +kernel
theorem dL_counts_291 : decode cL_counts 291 = .ok (.iconst 1, 1) := by decide +kernel
theorem dL_counts_292 : decode cL_counts 292 = .ok (.goto 4, 3) := by decide +kernel
theorem dL_counts_295 : decode cL_counts 295 = .ok (.iconst 0, 1) := by decide +kernel
theorem dL_counts_296 : decode cL_counts 296 = .ok (.if_icmp .ne 14, 3) := by decide +kernel
theorem dL_counts_299 : decode cL_counts 299 = .ok (.aload_n 0, 1) := by decide +kernel
theorem dL_counts_300 : decode cL_counts 300 = .ok (.iload 6, 2) := by decide +kernel
theorem dL_counts_302 : decode cL_counts 302 = .ok (.iconst 3, 1) := by decide +kernel
theorem dL_counts_303 : decode cL_counts 303 = .ok (.invokevirtual 66, 3) := by decide +kernel
theorem dL_counts_306 : decode cL_counts 306 = .ok (.iconst 1, 1) := by decide +kernel
theorem dL_counts_307 : decode cL_counts 307 = .ok (.if_icmp .ge 5, 3) := by decide +kernel
theorem dL_counts_310 : decode cL_counts 310 = .ok (.iconst 0, 1) := by decide +kernel
theorem dL_counts_311 : decode cL_counts 311 = .ok (.ireturn, 1) := by decide +kernel
theorem dL_counts_312 : decode cL_counts 312 = .ok (.aload_n 0, 1) := by decide +kernel
theorem dL_counts_313 : decode cL_counts 313 = .ok (.iload 6, 2) := by decide +kernel
theorem dL_counts_315 : decode cL_counts 315 = .ok (.iconst 0, 1) := by decide +kernel
theorem dL_counts_316 : decode cL_counts 316 = .ok (.invokevirtual 69, 3) := by decide +kernel
theorem dL_counts_319 : decode cL_counts 319 = .ok (.ifCond .lt 14, 3) := by decide +kernel
theorem dL_counts_322 : decode cL_counts 322 = .ok (.aload_n 0, 1) := by decide +kernel
theorem dL_counts_323 : decode cL_counts 323 = .ok (.iload 6, 2) := by decide +kernel
theorem dL_counts_325 : decode cL_counts 325 = .ok (.invokestatic 81, 3) := by decide +kernel
theorem dL_counts_328 : decode cL_counts 328 = .ok (.ifCond .ne 5, 3) := by decide +kernel
theorem dL_counts_331 : decode cL_counts 331 = .ok (.iconst 0, 1) := by decide +kernel
theorem dL_counts_332 : decode cL_counts 332 = .ok (.ireturn, 1) := by decide +kernel
theorem dL_counts_333 : decode cL_counts 333 = .ok (.iinc 6 1, 3) := by decide +kernel
theorem dL_counts_336 : decode cL_counts 336 = .ok (.goto (-196), 3) := by decide +kernel
theorem dL_counts_339 : decode cL_counts 339 = .ok (.iload_n 2, 1) := by decide +kernel
theorem dL_counts_340 : decode cL_counts 340 = .ok (.aload_n 0, 1) := by decide +kernel
theorem dL_counts_341 : decode cL_counts 341 = .ok (.bipush 12, 2) := by decide +kernel
theorem dL_counts_343 : decode cL_counts 343 = .ok (.invokevirtual 56, 3) := by decide +kernel
theorem dL_counts_346 : decode cL_counts 346 = .ok (.if_icmp .ne 63, 3) := by decide +kernel
theorem dL_counts_349 : decode cL_counts 349 = .ok (.iload_n 2, 1) := by decide +kernel
theorem dL_counts_350 : decode cL_counts 350 = .ok (.aload_n 0, 1) := by decide +kernel
theorem dL_counts_351 : decode cL_counts 351 = .ok (.bipush 13, 2) := by decide +kernel
theorem dL_counts_353 : decode cL_counts 353 = .ok (.invokevirtual 56, 3) := by decide +kernel
theorem dL_counts_356 : decode cL_counts 356 = .ok (.iadd, 1) := by decide +kernel
theorem dL_counts_357 : decode cL_counts 357 = .ok (.aload_n 0, 1) := by decide +kernel
theorem dL_counts_358 : decode cL_counts 358 = .ok (.bipush 14, 2) := by decide +kernel
theorem dL_counts_360 : decode cL_counts 360 = .ok (.invokevirtual 56, 3) := by decide +kernel
theorem dL_counts_363 : decode cL_counts 363 = .ok (.iadd, 1) := by decide +kernel
theorem dL_counts_364 : decode cL_counts 364 = .ok (.aload_n 0, 1) := by decide +kernel
theorem dL_counts_365 : decode cL_counts 365 = .ok (.iconst 1, 1) := by decide +kernel
theorem dL_counts_366 : decode cL_counts 366 = .ok (.invokevirtual 56, 3) := by decide +kernel
theorem dL_counts_369 : decode cL_counts 369 = .ok (.if_icmp .ne 40, 3) := by decide +kernel
theorem dL_counts_372 : decode cL_counts 372 = .ok (.iload_n 3, 1) := by decide +kernel
theorem dL_counts_373 : decode cL_counts 373 = .ok (.aload_n 0, 1) := by decide +kernel
theorem dL_counts_374 : decode cL_counts 374 = .ok (.bipush 11, 2) := by decide +kernel
theorem dL_counts_376 : decode cL_counts 376 = .ok (.invokevirtual 56, 3) := by decide +kernel
theorem dL_counts_379 : decode cL_counts 379 = .ok (.if_icmp .ne 30, 3) := by decide +kernel
theorem dL_counts_382 : decode cL_counts 382 = .ok (.iload_n 3, 1) := by decide +kernel
theorem dL_counts_383 : decode cL_counts 383 = .ok (.iconst 4, 1) := by decide +kernel
theorem dL_counts_384 : decode cL_counts 384 = .ok (.if_icmp .gt 25, 3) := by decide +kernel
theorem dL_counts_387 : decode cL_counts 387 = .ok (.iload 4, 2) := by decide +kernel
theorem dL_counts_389 : decode cL_counts 389 = .ok (.aload_n 0, 1) := by decide +kernel
theorem dL_counts_390 : decode cL_counts 390 = .ok (.bipush 8, 2) := by decide +kernel
theorem dL_counts_392 : decode cL_counts 392 = .ok (.invokevirtual 56, 3) := by decide +kernel
theorem dL_counts_395 : decode cL_counts 395 = .ok (.if_icmp .gt 14, 3) := by decide +kernel
theorem dL_counts_398 : decode cL_counts 398 = .ok (.iload 5, 2) := by decide +kernel
theorem dL_counts_400 : decode cL_counts 400 = .ok (.aload_n 0, 1) := by decide +kernel
theorem dL_counts_401 : decode cL_counts 401 = .ok (.bipush 11, 2) := by decide +kernel
theorem dL_counts_403 : decode cL_counts 403 = .ok (.invokevirtual 59, 3) := by decide +kernel
theorem dL_counts_406 : decode cL_counts 406 = .ok (.if_icmp .le 5, 3) := by decide +kernel
theorem dL_counts_409 : decode cL_counts 409 = .ok (.iconst 0, 1) := by decide +kernel
theorem dL_counts_410 : decode cL_counts 410 = .ok (.ireturn, 1) := by decide +kernel
theorem dL_counts_411 : decode cL_counts 411 = .ok (.iconst 1, 1) := by decide +kernel
theorem dL_counts_412 : decode cL_counts 412 = .ok (.istore 6, 2) := by decide +kernel
theorem dL_counts_414 : decode cL_counts 414 = .ok (.iload 6, 2) := by decide +kernel
theorem dL_counts_416 : decode cL_counts 416 = .ok (.aload_n 0, 1) := by decide +kernel
theorem dL_counts_417 : decode cL_counts 417 = .ok (.bipush 8, 2) := by decide +kernel
theorem dL_counts_419 : decode cL_counts 419 = .ok (.invokevirtual 56, 3) := by decide +kernel
theorem dL_counts_422 : decode cL_counts 422 = .ok (.if_icmp .ge 54, 3) := by decide +kernel
theorem dL_counts_425 : decode cL_counts 425 = .ok (.iload 6, 2) := by decide +kernel
theorem dL_counts_427 : decode cL_counts 427 = .ok (.bipush 12, 2) := by decide +kernel
theorem dL_counts_429 : decode cL_counts 429 = .ok (.if_icmp .ge 47, 3) := by decide +kernel
theorem dL_counts_432 : decode cL_counts 432 = .ok (.aload_n 0, 1) := by decide +kernel
theorem dL_counts_433 : decode cL_counts 433 = .ok (.iload 6, 2) := by decide +kernel
theorem dL_counts_435 : decode cL_counts 435 = .ok (.iconst 1, 1) := by decide +kernel
theorem dL_counts_436 : decode cL_counts 436 = .ok (.invokevirtual 75, 3) := by decide +kernel
theorem dL_counts_439 : decode cL_counts 439 = .ok (.aload_n 0, 1) := by decide +kernel
theorem dL_counts_440 : decode cL_counts 440 = .ok (.iload 6, 2) := by decide +kernel
theorem dL_counts_442 : decode cL_counts 442 = .ok (.iconst 1, 1) := by decide +kernel
theorem dL_counts_443 : decode cL_counts 443 = .ok (.isub, 1) := by decide +kernel
theorem dL_counts_444 : decode cL_counts 444 = .ok (.iconst 1, 1) := by decide +kernel
theorem dL_counts_445 : decode cL_counts 445 = .ok (.invokevirtual 75, 3) := by decide +kernel
theorem dL_counts_448 : decode cL_counts 448 = .ok (.if_icmp .lt 20, 3) := by decide +kernel
theorem dL_counts_451 : decode cL_counts 451 = .ok (.aload_n 0, 1) := by decide +kernel
theorem dL_counts_452 : decode cL_counts 452 = .ok (.iload 6, 2) := by decide +kernel
theorem dL_counts_454 : decode cL_counts 454 = .ok (.iconst 1, 1) := by decide +kernel
theorem dL_counts_455 : decode cL_counts 455 = .ok (.isub, 1) := by decide +kernel
theorem dL_counts_456 : decode cL_counts 456 = .ok (.iconst 1, 1) := by decide +kernel
theorem dL_counts_457 : decode cL_counts 457 = .ok (.invokevirtual 75, 3) := by decide +kernel
theorem dL_counts_460 : decode cL_counts 460 = .ok (.aload_n 0, 1) := by decide +kernel
theorem dL_counts_461 : decode cL_counts 461 = .ok (.iconst 2, 1) := by decide +kernel
theorem dL_counts_462 : decode cL_counts 462 = .ok (.invokevirtual 56, 3) := by decide +kernel
theorem dL_counts_465 : decode cL_counts 465 = .ok (.if_icmp .gt 5, 3) := by decide +kernel
theorem dL_counts_468 : decode cL_counts 468 = .ok (.iconst 0, 1) := by decide +kernel
theorem dL_counts_469 : decode cL_counts 469 = .ok (.ireturn, 1) := by decide +kernel
theorem dL_counts_470 : decode cL_counts 470 = .ok (.iinc 6 1, 3) := by decide +kernel
theorem dL_counts_473 : decode cL_counts 473 = .ok (.goto (-59), 3) := by decide +kernel
theorem dL_counts_476 : decode cL_counts 476 = .ok (.aload_n 0, 1) := by decide +kernel
theorem dL_counts_477 : decode cL_counts 477 = .ok (.bipush 6, 2) := by decide +kernel
theorem dL_counts_479 : decode cL_counts 479 = .ok (.invokevirtual 59, 3) := by decide +kernel
theorem dL_counts_482 : decode cL_counts 482 = .ok (.aload_n 0, 1) := by decide +kernel
theorem dL_counts_483 : decode cL_counts 483 = .ok (.iconst 5, 1) := by decide +kernel
theorem dL_counts_484 : decode cL_counts 484 = .ok (.invokevirtual 59, 3) := by decide +kernel
theorem dL_counts_487 : decode cL_counts 487 = .ok (.if_icmp .gt 40, 3) := by decide +kernel
theorem dL_counts_490 : decode cL_counts 490 = .ok (.aload_n 0, 1) := by decide +kernel
theorem dL_counts_491 : decode cL_counts 491 = .ok (.bipush 10, 2) := by decide +kernel
theorem dL_counts_493 : decode cL_counts 493 = .ok (.invokevirtual 59, 3) := by decide +kernel
theorem dL_counts_496 : decode cL_counts 496 = .ok (.aload_n 0, 1) := by decide +kernel
theorem dL_counts_497 : decode cL_counts 497 = .ok (.iconst 5, 1) := by decide +kernel
theorem dL_counts_498 : decode cL_counts 498 = .ok (.invokevirtual 59, 3) := by decide +kernel
theorem dL_counts_501 : decode cL_counts 501 = .ok (.if_icmp .gt 26, 3) := by decide +kernel
theorem dL_counts_504 : decode cL_counts 504 = .ok (.aload_n 0, 1) := by decide +kernel
theorem dL_counts_505 : decode cL_counts 505 = .ok (.iconst 2, 1) := by decide +kernel
theorem dL_counts_506 : decode cL_counts 506 = .ok (.invokevirtual 59, 3) := by decide +kernel
theorem dL_counts_509 : decode cL_counts 509 = .ok (.aload_n 0, 1) := by decide +kernel
theorem dL_counts_510 : decode cL_counts 510 = .ok (.iconst 1, 1) := by decide +kernel
theorem dL_counts_511 : decode cL_counts 511 = .ok (.invokevirtual 59, 3) := by decide +kernel
theorem dL_counts_514 : decode cL_counts 514 = .ok (.iadd, 1) := by decide +kernel
theorem dL_counts_515 : decode cL_counts 515 = .ok (.aload_n 0, 1) := by decide +kernel
theorem dL_counts_516 : decode cL_counts 516 = .ok (.iconst 0, 1) := by decide +kernel
theorem dL_counts_517 : decode cL_counts 517 = .ok (.invokevirtual 59, 3) := by decide +kernel
theorem dL_counts_520 : decode cL_counts 520 = .ok (.if_icmp .gt 7, 3) := by decide +kernel
theorem dL_counts_523 : decode cL_counts 523 = .ok (.iconst 1, 1) := by decide +kernel
theorem dL_counts_524 : decode cL_counts 524 = .ok (.goto 4, 3) := by decide +kernel
theorem dL_counts_527 : decode cL_counts 527 = .ok (.iconst 0, 1) := by decide +kernel
theorem dL_counts_528 : decode cL_counts 528 = .ok (.ireturn, 1) := by decide +kernel
/-! L_heap -/
theorem dL_heap_0 : decode cL_heap 0 = .ok (.aload_n 0, 1) := by decide +kernel
theorem dL_heap_1 : decode cL_heap 1 = .ok (.iload_n 1, 1) := by decide +kernel
theorem dL_heap_2 : decode cL_heap 2 = .ok (.iconst 1, 1) := by decide +kernel
theorem dL_heap_3 : decode cL_heap 3 = .ok (.invokevirtual 69, 3) := by decide +kernel
theorem dL_heap_6 : decode cL_heap 6 = .ok (.istore_n 2, 1) := by decide +kernel
theorem dL_heap_7 : decode cL_heap 7 = .ok (.aload_n 0, 1) := by decide +kernel
theorem dL_heap_8 : decode cL_heap 8 = .ok (.iload_n 1, 1) := by decide +kernel
theorem dL_heap_9 : decode cL_heap 9 = .ok (.bipush 6, 2) := by decide +kernel
theorem dL_heap_11 : decode cL_heap 11 = .ok (.invokevirtual 69, 3) := by decide +kernel
theorem dL_heap_14 : decode cL_heap 14 = .ok (.istore_n 3, 1) := by decide +kernel
theorem dL_heap_15 : decode cL_heap 15 = .ok (.iconst 0, 1) := by decide +kernel
theorem dL_heap_16 : decode cL_heap 16 = .ok (.istore 4, 2) := by decide +kernel
theorem dL_heap_18 : decode cL_heap 18 = .ok (.iconst 0, 1) := by decide +kernel
theorem dL_heap_19 : decode cL_heap 19 = .ok (.istore 5, 2) := by decide +kernel
theorem dL_heap_21 : decode cL_heap 21 = .ok (.iconst 0, 1) := by decide +kernel
theorem dL_heap_22 : decode cL_heap 22 = .ok (.istore 6, 2) := by decide +kernel
theorem dL_heap_24 : decode cL_heap 24 = .ok (.iconst 0, 1) := by decide +kernel
theorem dL_heap_25 : decode cL_heap 25 = .ok (.istore 7, 2) := by decide +kernel
theorem dL_heap_27 : decode cL_heap 27 = .ok (.aload_n 0, 1) := by decide +kernel
theorem dL_heap_28 : decode cL_heap 28 = .ok (.iload_n 1, 1) := by decide +kernel
theorem dL_heap_29 : decode cL_heap 29 = .ok (.iload 7, 2) := by decide +kernel
theorem dL_heap_31 : decode cL_heap 31 = .ok (.iconst 0, 1) := by decide +kernel
theorem dL_heap_32 : decode cL_heap 32 = .ok (.invokevirtual 84, 3) := by decide +kernel
theorem dL_heap_35 : decode cL_heap 35 = .ok (.ifCond .lt 143, 3) := by decide +kernel
theorem dL_heap_38 : decode cL_heap 38 = .ok (.aload_n 0, 1) := by decide +kernel
theorem dL_heap_39 : decode cL_heap 39 = .ok (.iload_n 1, 1) := by decide +kernel
theorem dL_heap_40 : decode cL_heap 40 = .ok (.iload 7, 2) := by decide +kernel
theorem dL_heap_42 : decode cL_heap 42 = .ok (.iconst 0, 1) := by decide +kernel
theorem dL_heap_43 : decode cL_heap 43 = .ok (.invokevirtual 84, 3) := by decide +kernel
theorem dL_heap_46 : decode cL_heap 46 = .ok (.istore 8, 2) := by decide +kernel
theorem dL_heap_48 : decode cL_heap 48 = .ok (.aload_n 0, 1) := by decide +kernel
theorem dL_heap_49 : decode cL_heap 49 = .ok (.iload_n 1, 1) := by decide +kernel
theorem dL_heap_50 : decode cL_heap 50 = .ok (.iload 7, 2) := by decide +kernel
theorem dL_heap_52 : decode cL_heap 52 = .ok (.iconst 1, 1) := by decide +kernel
theorem dL_heap_53 : decode cL_heap 53 = .ok (.invokevirtual 84, 3) := by decide +kernel
theorem dL_heap_56 : decode cL_heap 56 = .ok (.istore 9, 2) := by decide +kernel
theorem dL_heap_58 : decode cL_heap 58 = .ok (.iload 8, 2) := by decide +kernel
theorem dL_heap_60 : decode cL_heap 60 = .ok (.iload 6, 2) := by decide +kernel
theorem dL_heap_62 : decode cL_heap 62 = .ok (.if_icmp .lt 72, 3) := by decide +kernel
theorem dL_heap_65 : decode cL_heap 65 = .ok (.iload 9, 2) := by decide +kernel
theorem dL_heap_67 : decode cL_heap 67 = .ok (.ifCond .lt 10, 3) := by decide +kernel
theorem dL_heap_70 : decode cL_heap 70 = .ok (.iload 9, 2) := by decide +kernel
theorem dL_heap_72 : decode cL_heap 72 = .ok (.iload 8, 2) := by decide +kernel
theorem dL_heap_74 : decode cL_heap 74 = .ok (.if_icmp .le 60, 3) := by decide +kernel
theorem dL_heap_77 : decode cL_heap 77 = .ok (.aload_n 0, 1) := by decide +kernel
theorem dL_heap_78 : decode cL_heap 78 = .ok (.iload_n 1, 1) := by decide +kernel
theorem dL_heap_79 : decode cL_heap 79 = .ok (.iload 8, 2) := by decide +kernel
theorem dL_heap_81 : decode cL_heap 81 = .ok (.invokevirtual 72, 3) := by decide +kernel
theorem dL_heap_84 : decode cL_heap 84 = .ok (.iconst (-1), 1) := by decide +kernel
theorem dL_heap_85 : decode cL_heap 85 = .ok (.if_icmp .ne 49, 3) := by decide +kernel
theorem dL_heap_88 : decode cL_heap 88 = .ok (.iload 8, 2) := by decide +kernel
theorem dL_heap_90 : decode cL_heap 90 = .ok (.ifCond .le 16, 3) := by decide +kernel
theorem dL_heap_93 : decode cL_heap 93 = .ok (.aload_n 0, 1) := by decide +kernel
theorem dL_heap_94 : decode cL_heap 94 = .ok (.iload_n 1, 1) := by decide +kernel
theorem dL_heap_95 : decode cL_heap 95 = .ok (.iload 8, 2) := by decide +kernel
theorem dL_heap_97 : decode cL_heap 97 = .ok (.iconst 1, 1) := by decide +kernel
theorem dL_heap_98 : decode cL_heap 98 = .ok (.isub, 1) := by decide +kernel
theorem dL_heap_99 : decode cL_heap 99 = .ok (.invokevirtual 72, 3) := by decide +kernel
theorem dL_heap_102 : decode cL_heap 102 = .ok (.iconst (-1), 1) := by decide +kernel
theorem dL_heap_103 : decode cL_heap 103 = .ok (.if_icmp .eq 31, 3) := by decide +kernel
theorem dL_heap_106 : decode cL_heap 106 = .ok (.iload 9, 2) := by decide +kernel
theorem dL_heap_108 : decode cL_heap 108 = .ok (.ifCond .ge 7, 3) := by decide +kernel
theorem dL_heap_111 : decode cL_heap 111 = .ok (.iconst 1, 1) := by decide +kernel
theorem dL_heap_112 : decode cL_heap 112 = .ok (.goto 4, 3) := by decide +kernel
theorem dL_heap_115 : decode cL_heap 115 = .ok (.iconst 0, 1) := by decide +kernel
theorem dL_heap_116 : decode cL_heap 116 = .ok (.iload_n 2, 1) := by decide +kernel
theorem dL_heap_117 : decode cL_heap 117 = .ok (.ifCond .ge 13, 3) := by decide +kernel
theorem dL_heap_120 : decode cL_heap 120 = .ok (.iload 8, 2) := by decide +kernel
theorem dL_heap_122 : decode cL_heap 122 = .ok (.iload_n 3, 1) := by decide +kernel
theorem dL_heap_123 : decode cL_heap 123 = .ok (.if_icmp .ne 7, 3) := by decide +kernel
theorem dL_heap_126 : decode cL_heap 126 = .ok (.iconst 1, 1) := by decide +kernel
theorem dL_heap_127 : decode cL_heap 127 = .ok (.goto 4, 3) := by decide +kernel
theorem dL_heap_130 : decode cL_heap 130 = .ok (.iconst 0, 1) := by decide +kernel
theorem dL_heap_131 : decode cL_heap 131 = .ok (.if_icmp .eq 5, 3) := by decide +kernel
theorem dL_heap_134 : decode cL_heap 134 = .ok (.iconst 0, 1) := by decide +kernel
theorem dL_heap_135 : decode cL_heap 135 = .ok (.ireturn, 1) := by decide +kernel
theorem dL_heap_136 : decode cL_heap 136 = .ok (.iinc 4 1, 3) := by decide +kernel
theorem dL_heap_139 : decode cL_heap 139 = .ok (.iload 5, 2) := by decide +kernel
theorem dL_heap_141 : decode cL_heap 141 = .ok (.iload 9, 2) := by decide +kernel
theorem dL_heap_143 : decode cL_heap 143 = .ok (.ifCond .ge 7, 3) := by decide +kernel
theorem dL_heap_146 : decode cL_heap 146 = .ok (.iconst 0, 1) := by decide +kernel
theorem dL_heap_147 : decode cL_heap 147 = .ok (.goto 8, 3) := by decide +kernel
theorem dL_heap_150 : decode cL_heap 150 = .ok (.iload 9, 2) := by decide +kernel
theorem dL_heap_152 : decode cL_heap 152 = .ok (.iload 8, 2) := by decide +kernel
theorem dL_heap_154 : decode cL_heap 154 = .ok (.isub, 1) := by decide +kernel
theorem dL_heap_155 : decode cL_heap 155 = .ok (.iadd, 1) := by decide +kernel
theorem dL_heap_156 : decode cL_heap 156 = .ok (.istore 5, 2) := by decide +kernel
theorem dL_heap_158 : decode cL_heap 158 = .ok (.iload 9, 2) := by decide +kernel
theorem dL_heap_160 : decode cL_heap 160 = .ok (.ifCond .ge 8, 3) := by decide +kernel
theorem dL_heap_163 : decode cL_heap 163 = .ok (.iload 8, 2) := by decide +kernel
theorem dL_heap_165 : decode cL_heap 165 = .ok (.goto 5, 3) := by decide +kernel
theorem dL_heap_168 : decode cL_heap 168 = .ok (.iload 9, 2) := by decide +kernel
theorem dL_heap_170 : decode cL_heap 170 = .ok (.istore 6, 2) := by decide +kernel
theorem dL_heap_172 : decode cL_heap 172 = .ok (.iinc 7 1, 3) := by decide +kernel
theorem dL_heap_175 : decode cL_heap 175 = .ok (.goto (-148), 3) := by decide +kernel
theorem dL_heap_178 : decode cL_heap 178 = .ok (.iconst 0, 1) := by decide +kernel
theorem dL_heap_179 : decode cL_heap 179 = .ok (.istore 7, 2) := by decide +kernel
theorem dL_heap_181 : decode cL_heap 181 = .ok (.iconst 0, 1) := by decide +kernel
theorem dL_heap_182 : decode cL_heap 182 = .ok (.istore 8, 2) := by decide +kernel
theorem dL_heap_184 : decode cL_heap 184 = .ok (.iload 8, 2) := by decide +kernel
theorem dL_heap_186 : decode cL_heap 186 = .ok (.sipush 1200, 3) := by decide +kernel
theorem dL_heap_189 : decode cL_heap 189 = .ok (.if_icmp .ge 29, 3) := by decide +kernel
theorem dL_heap_192 : decode cL_heap 192 = .ok (.iload 7, 2) := by decide +kernel
theorem dL_heap_194 : decode cL_heap 194 = .ok (.aload_n 0, 1) := by decide +kernel
theorem dL_heap_195 : decode cL_heap 195 = .ok (.iload_n 1, 1) := by decide +kernel
theorem dL_heap_196 : decode cL_heap 196 = .ok (.iload 8, 2) := by decide +kernel
theorem dL_heap_198 : decode cL_heap 198 = .ok (.invokevirtual 72, 3) := by decide +kernel
theorem dL_heap_201 : decode cL_heap 201 = .ok (.ifCond .lt 7, 3) := by decide +kernel
theorem dL_heap_204 : decode cL_heap 204 = .ok (.iconst 1, 1) := by decide +kernel
theorem dL_heap_205 : decode cL_heap 205 = .ok (.goto 4, 3) := by decide +kernel
theorem dL_heap_208 : decode cL_heap 208 = .ok (.iconst 0, 1) := by decide +kernel
theorem dL_heap_209 : decode cL_heap 209 = .ok (.iadd, 1) := by decide +kernel
theorem dL_heap_210 : decode cL_heap 210 = .ok (.istore 7, 2) := by decide +kernel
theorem dL_heap_212 : decode cL_heap 212 = .ok (.iinc 8 1, 3) := by decide +kernel
theorem dL_heap_215 : decode cL_heap 215 = .ok (.goto (-31), 3) := by decide +kernel
theorem dL_heap_218 : decode cL_heap 218 = .ok (.iload 4, 2) := by decide +kernel
theorem dL_heap_220 : decode cL_heap 220 = .ok (.aload_n 0, 1) := by decide +kernel
theorem dL_heap_221 : decode cL_heap 221 = .ok (.iload_n 1, 1) := by decide +kernel
theorem dL_heap_222 : decode cL_heap 222 = .ok (.iconst 3, 1) := by decide +kernel
theorem dL_heap_223 : decode cL_heap 223 = .ok (.invokevirtual 69, 3) := by decide +kernel
theorem dL_heap_226 : decode cL_heap 226 = .ok (.if_icmp .ne 58, 3) := by decide +kernel
theorem dL_heap_229 : decode cL_heap 229 = .ok (.iload 7, 2) := by decide +kernel
theorem dL_heap_231 : decode cL_heap 231 = .ok (.aload_n 0, 1) := by decide +kernel
theorem dL_heap_232 : decode cL_heap 232 = .ok (.iload_n 1, 1) := by decide +kernel
theorem dL_heap_233 : decode cL_heap 233 = .ok (.iconst 2, 1) := by decide +kernel
theorem dL_heap_234 : decode cL_heap 234 = .ok (.invokevirtual 69, 3) := by decide +kernel
theorem dL_heap_237 : decode cL_heap 237 = .ok (.if_icmp .ne 47, 3) := by decide +kernel
theorem dL_heap_240 : decode cL_heap 240 = .ok (.iload 7, 2) := by decide +kernel
theorem dL_heap_242 : decode cL_heap 242 = .ok (.ifCond .eq 42, 3) := by decide +kernel
theorem dL_heap_245 : decode cL_heap 245 = .ok (.iload_n 3, 1) := by decide +kernel
theorem dL_heap_246 : decode cL_heap 246 = .ok (.iload 7, 2) := by decide +kernel
theorem dL_heap_248 : decode cL_heap 248 = .ok (.if_icmp .lt 36, 3) := by decide +kernel
theorem dL_heap_251 : decode cL_heap 251 = .ok (.iload_n 2, 1) := by decide +kernel
theorem dL_heap_252 : decode cL_heap 252 = .ok (.ifCond .lt 34, 3) := by decide +kernel
theorem dL_heap_255 : decode cL_heap 255 = .ok (.iload_n 3, 1) := by decide +kernel
theorem dL_heap_256 : decode cL_heap 256 = .ok (.iload_n 2, 1) := by decide +kernel
theorem dL_heap_257 : decode cL_heap 257 = .ok (.if_icmp .gt 27, 3) := by decide +kernel
theorem dL_heap_260 : decode cL_heap 260 = .ok (.iload 5, 2) := by decide +kernel
theorem dL_heap_262 : decode cL_heap 262 = .ok (.aload_n 0, 1) := by decide +kernel
theorem dL_heap_263 : decode cL_heap 263 = .ok (.iload_n 1, 1) := by decide +kernel
theorem dL_heap_264 : decode cL_heap 264 = .ok (.invokevirtual 88, 3) := by decide +kernel
theorem dL_heap_267 : decode cL_heap 267 = .ok (.if_icmp .ne 17, 3) := by decide +kernel
theorem dL_heap_270 : decode cL_heap 270 = .ok (.iload 7, 2) := by decide +kernel
theorem dL_heap_272 : decode cL_heap 272 = .ok (.iload 5, 2) := by decide +kernel
theorem dL_heap_274 : decode cL_heap 274 = .ok (.iadd, 1) := by decide +kernel
theorem dL_heap_275 : decode cL_heap 275 = .ok (.iload_n 2, 1) := by decide +kernel
theorem dL_heap_276 : decode cL_heap 276 = .ok (.if_icmp .ne 8, 3) := by decide +kernel
theorem dL_heap_279 : decode cL_heap 279 = .ok (.iload 5, 2) := by decide +kernel
theorem dL_heap_281 : decode cL_heap 281 = .ok (.ifCond .ne 5, 3) := by decide +kernel
theorem dL_heap_284 : decode cL_heap 284 = .ok (.iconst 0, 1) := by decide +kernel
theorem dL_heap_285 : decode cL_heap 285 = .ok (.ireturn, 1) := by decide +kernel
theorem dL_heap_286 : decode cL_heap 286 = .ok (.iload_n 2, 1) := by decide +kernel
theorem dL_heap_287 : decode cL_heap 287 = .ok (.ifCond .lt 47, 3) := by decide +kernel
theorem dL_heap_290 : decode cL_heap 290 = .ok (.aload_n 0, 1) := by decide +kernel
theorem dL_heap_291 : decode cL_heap 291 = .ok (.iload_n 1, 1) := by decide +kernel
theorem dL_heap_292 : decode cL_heap 292 = .ok (.iconst 0, 1) := by decide +kernel
theorem dL_heap_293 : decode cL_heap 293 = .ok (.sipush 1000, 3) := by decide +kernel
theorem dL_heap_296 : decode cL_heap 296 = .ok (.invokevirtual 91, 3) := by decide +kernel
theorem dL_heap_299 : decode cL_heap 299 = .ok (.iload_n 2, 1) := by decide +kernel
theorem dL_heap_300 : decode cL_heap 300 = .ok (.sipush 1000, 3) := by decide +kernel
theorem dL_heap_303 : decode cL_heap 303 = .ok (.if_icmp .gt 7, 3) := by decide +kernel
theorem dL_heap_306 : decode cL_heap 306 = .ok (.iconst 1, 1) := by decide +kernel
theorem dL_heap_307 : decode cL_heap 307 = .ok (.goto 4, 3) := by decide +kernel
theorem dL_heap_310 : decode cL_heap 310 = .ok (.iconst 0, 1) := by decide +kernel
theorem dL_heap_311 : decode cL_heap 311 = .ok (.if_icmp .eq 15, 3) := by decide +kernel
theorem dL_heap_314 : decode cL_heap 314 = .ok (.aload_n 0, 1) := by decide +kernel
theorem dL_heap_315 : decode cL_heap 315 = .ok (.iload_n 1, 1) := by decide +kernel
theorem dL_heap_316 : decode cL_heap 316 = .ok (.iconst 0, 1) := by decide +kernel
theorem dL_heap_317 : decode cL_heap 317 = .ok (.sipush 1000, 3) := by decide +kernel
theorem dL_heap_320 : decode cL_heap 320 = .ok (.invokevirtual 91, 3) := by decide +kernel
theorem dL_heap_323 : decode cL_heap 323 = .ok (.ifCond .eq 7, 3) := by decide +kernel
theorem dL_heap_326 : decode cL_heap 326 = .ok (.iconst 1, 1) := by decide +kernel
theorem dL_heap_327 : decode cL_heap 327 = .ok (.goto 30, 3) := by decide +kernel
theorem dL_heap_330 : decode cL_heap 330 = .ok (.iconst 0, 1) := by decide +kernel
theorem dL_heap_331 : decode cL_heap 331 = .ok (.goto 26, 3) := by decide +kernel
theorem dL_heap_334 : decode cL_heap 334 = .ok (.iload 7, 2) := by decide +kernel
theorem dL_heap_336 : decode cL_heap 336 = .ok (.iload 5, 2) := by decide +kernel
theorem dL_heap_338 : decode cL_heap 338 = .ok (.iadd, 1) := by decide +kernel
theorem dL_heap_339 : decode cL_heap 339 = .ok (.iload_n 3, 1) := by decide +kernel
theorem dL_heap_340 : decode cL_heap 340 = .ok (.if_icmp .ne 16, 3) := by decide +kernel
theorem dL_heap_343 : decode cL_heap 343 = .ok (.aload_n 0, 1) := by decide +kernel
theorem dL_heap_344 : decode cL_heap 344 = .ok (.iload_n 1, 1) := by decide +kernel
theorem dL_heap_345 : decode cL_heap 345 = .ok (.invokevirtual 88, 3) := by decide +kernel
theorem dL_heap_348 : decode cL_heap 348 = .ok (.iconst (-1), 1) := by decide +kernel
theorem dL_heap_349 : decode cL_heap 349 = .ok (.if_icmp .ne 7, 3) := by decide +kernel
theorem dL_heap_352 : decode cL_heap 352 = .ok (.iconst 1, 1) := by decide +kernel
theorem dL_heap_353 : decode cL_heap 353 = .ok (.goto 4, 3) := by decide +kernel
theorem dL_heap_356 : decode cL_heap 356 = .ok (.iconst 0, 1) := by decide +kernel
theorem dL_heap_357 : decode cL_heap 357 = .ok (.ireturn, 1) := by decide +kernel
/-! L_honest -/
theorem dL_honest_0 : decode cL_honest 0 = .ok (.iconst 0, 1) := by decide +kernel
theorem dL_honest_1 : decode cL_honest 1 = .ok (.istore_n 1, 1) := by decide +kernel
theorem dL_honest_2 : decode cL_honest 2 = .ok (.iload_n 1, 1) := by decide +kernel
theorem dL_honest_3 : decode cL_honest 3 = .ok (.aload_n 0, 1) := by decide +kernel
theorem dL_honest_4 : decode cL_honest 4 = .ok (.iconst 1, 1) := by decide +kernel
theorem dL_honest_5 : decode cL_honest 5 = .ok (.invokevirtual 56, 3) := by decide +kernel
theorem dL_honest_8 : decode cL_honest 8 = .ok (.if_icmp .ge 32, 3) := by decide +kernel
theorem dL_honest_11 : decode cL_honest 11 = .ok (.aload_n 0, 1) := by decide +kernel
theorem dL_honest_12 : decode cL_honest 12 = .ok (.iload_n 1, 1) := by decide +kernel
theorem dL_honest_13 : decode cL_honest 13 = .ok (.iconst 5, 1) := by decide +kernel
theorem dL_honest_14 : decode cL_honest 14 = .ok (.invokevirtual 66, 3) := by decide +kernel
theorem dL_honest_17 : decode cL_honest 17 = .ok (.iconst 2, 1) := by decide +kernel
theorem dL_honest_18 : decode cL_honest 18 = .ok (.if_icmp .eq 14, 3) := by decide +kernel
theorem dL_honest_21 : decode cL_honest 21 = .ok (.aload_n 0, 1) := by decide +kernel
theorem dL_honest_22 : decode cL_honest 22 = .ok (.iload_n 1, 1) := by decide +kernel
theorem dL_honest_23 : decode cL_honest 23 = .ok (.bipush 7, 2) := by decide +kernel
theorem dL_honest_25 : decode cL_honest 25 = .ok (.invokevirtual 66, 3) := by decide +kernel
theorem dL_honest_28 : decode cL_honest 28 = .ok (.iconst 2, 1) := by decide +kernel
theorem dL_honest_29 : decode cL_honest 29 = .ok (.if_icmp .le 5, 3) := by decide +kernel
theorem dL_honest_32 : decode cL_honest 32 = .ok (.iconst 0, 1) := by decide +kernel
theorem dL_honest_33 : decode cL_honest 33 = .ok (.ireturn, 1) := by decide +kernel
theorem dL_honest_34 : decode cL_honest 34 = .ok (.iinc 1 1, 3) := by decide +kernel
theorem dL_honest_37 : decode cL_honest 37 = .ok (.goto (-35), 3) := by decide +kernel
theorem dL_honest_40 : decode cL_honest 40 = .ok (.aload_n 0, 1) := by decide +kernel
theorem dL_honest_41 : decode cL_honest 41 = .ok (.bipush 10, 2) := by decide +kernel
theorem dL_honest_43 : decode cL_honest 43 = .ok (.invokevirtual 59, 3) := by decide +kernel
theorem dL_honest_46 : decode cL_honest 46 = .ok (.ifCond .ne 25, 3) := by decide +kernel
theorem dL_honest_49 : decode cL_honest 49 = .ok (.aload_n 0, 1) := by decide +kernel
theorem dL_honest_50 : decode cL_honest 50 = .ok (.bipush 13, 2) := by decide +kernel
theorem dL_honest_52 : decode cL_honest 52 = .ok (.invokevirtual 56, 3) := by decide +kernel
theorem dL_honest_55 : decode cL_honest 55 = .ok (.ifCond .eq 12, 3) := by decide +kernel
theorem dL_honest_58 : decode cL_honest 58 = .ok (.aload_n 0, 1) := by decide +kernel
theorem dL_honest_59 : decode cL_honest 59 = .ok (.invokevirtual 183, 3) := by decide +kernel
theorem dL_honest_62 : decode cL_honest 62 = .ok (.fconst 1, 1) := by decide +kernel
theorem dL_honest_63 : decode cL_honest 63 = .ok (.fcmp .l, 1) := by decide +kernel
theorem dL_honest_64 : decode cL_honest 64 = .ok (.ifCond .ne 7, 3) := by decide +kernel
theorem dL_honest_67 : decode cL_honest 67 = .ok (.iconst 1, 1) := by decide +kernel
theorem dL_honest_68 : decode cL_honest 68 = .ok (.goto 4, 3) := by decide +kernel
theorem dL_honest_71 : decode cL_honest 71 = .ok (.iconst 0, 1) := by decide +kernel
theorem dL_honest_72 : decode cL_honest 72 = .ok (.ireturn, 1) := by decide +kernel
/-! L_acts -/
theorem dL_acts_0 : decode cL_acts 0 = .ok (.iload_n 2, 1) := by decide +kernel
theorem dL_acts_1 : decode cL_acts 1 = .ok (.aload_n 0, 1) := by decide +kernel
theorem dL_acts_2 : decode cL_acts 2 = .ok (.iconst 0, 1) := by decide +kernel
theorem dL_acts_3 : decode cL_acts 3 = .ok (.invokevirtual 56, 3) := by decide +kernel
theorem dL_acts_6 : decode cL_acts 6 = .ok (.irem, 1) := by decide +kernel
theorem dL_acts_7 : decode cL_acts 7 = .ok (.istore 5, 2) := by decide +kernel
theorem dL_acts_9 : decode cL_acts 9 = .ok (.aload_n 0, 1) := by decide +kernel
theorem dL_acts_10 : decode cL_acts 10 = .ok (.iconst 1, 1) := by decide +kernel
theorem dL_acts_11 : decode cL_acts 11 = .ok (.invokevirtual 56, 3) := by decide +kernel
theorem dL_acts_14 : decode cL_acts 14 = .ok (.istore 6, 2) := by decide +kernel
theorem dL_acts_16 : decode cL_acts 16 = .ok (.iload_n 1, 1) := by decide +kernel
theorem dL_acts_17 : decode cL_acts 17 = .ok (.tableswitch 231 0 9 #[55, 55, 83, 104, 117, 117, 173, 188, 199, 210], 55) := by decide +kernel
theorem dL_acts_72 : decode cL_acts 72 = .ok (.aload_n 0, 1) := by decide +kernel
theorem dL_acts_73 : decode cL_acts 73 = .ok (.iconst 1, 1) := by decide +kernel
theorem dL_acts_74 : decode cL_acts 74 = .ok (.iload_n 3, 1) := by decide +kernel
theorem dL_acts_75 : decode cL_acts 75 = .ok (.sipush 400, 3) := by decide +kernel
theorem dL_acts_78 : decode cL_acts 78 = .ok (.irem, 1) := by decide +kernel
theorem dL_acts_79 : decode cL_acts 79 = .ok (.iadd, 1) := by decide +kernel
theorem dL_acts_80 : decode cL_acts 80 = .ok (.iload_n 2, 1) := by decide +kernel
theorem dL_acts_81 : decode cL_acts 81 = .ok (.sipush 256, 3) := by decide +kernel
theorem dL_acts_84 : decode cL_acts 84 = .ok (.irem, 1) := by decide +kernel
theorem dL_acts_85 : decode cL_acts 85 = .ok (.iload_n 2, 1) := by decide +kernel
theorem dL_acts_86 : decode cL_acts 86 = .ok (.iconst 2, 1) := by decide +kernel
theorem dL_acts_87 : decode cL_acts 87 = .ok (.irem, 1) := by decide +kernel
theorem dL_acts_88 : decode cL_acts 88 = .ok (.ifCond .ne 7, 3) := by decide +kernel
theorem dL_acts_91 : decode cL_acts 91 = .ok (.iconst 1, 1) := by decide +kernel
theorem dL_acts_92 : decode cL_acts 92 = .ok (.goto 4, 3) := by decide +kernel
theorem dL_acts_95 : decode cL_acts 95 = .ok (.iconst 0, 1) := by decide +kernel
theorem dL_acts_96 : decode cL_acts 96 = .ok (.invokevirtual 154, 3) := by decide +kernel
theorem dL_acts_99 : decode cL_acts 99 = .ok (.ireturn, 1) := by decide +kernel
theorem dL_acts_100 : decode cL_acts 100 = .ok (.iload 6, 2) := by decide +kernel
theorem dL_acts_102 : decode cL_acts 102 = .ok (.ifCond .ne 10, 3) := by decide +kernel
theorem dL_acts_105 : decode cL_acts 105 = .ok (.aload_n 0, 1) := by decide +kernel
theorem dL_acts_106 : decode cL_acts 106 = .ok (.invokevirtual 158, 3) := by decide +kernel
theorem dL_acts_109 : decode cL_acts 109 = .ok (.goto 11, 3) := by decide +kernel
theorem dL_acts_112 : decode cL_acts 112 = .ok (.aload_n 0, 1) := by decide +kernel
theorem dL_acts_113 : decode cL_acts 113 = .ok (.iload_n 2, 1) := by decide +kernel
theorem dL_acts_114 : decode cL_acts 114 = .ok (.iload 6, 2) := by decide +kernel
theorem dL_acts_116 : decode cL_acts 116 = .ok (.irem, 1) := by decide +kernel
theorem dL_acts_117 : decode cL_acts 117 = .ok (.invokevirtual 161, 3) := by decide +kernel
theorem dL_acts_120 : decode cL_acts 120 = .ok (.ireturn, 1) := by decide +kernel
theorem dL_acts_121 : decode cL_acts 121 = .ok (.aload_n 0, 1) := by decide +kernel
theorem dL_acts_122 : decode cL_acts 122 = .ok (.bipush 28, 2) := by decide +kernel
theorem dL_acts_124 : decode cL_acts 124 = .ok (.iload_n 3, 1) := by decide +kernel
theorem dL_acts_125 : decode cL_acts 125 = .ok (.sipush 1473, 3) := by decide +kernel
theorem dL_acts_128 : decode cL_acts 128 = .ok (.irem, 1) := by decide +kernel
theorem dL_acts_129 : decode cL_acts 129 = .ok (.iadd, 1) := by decide +kernel
theorem dL_acts_130 : decode cL_acts 130 = .ok (.invokevirtual 164, 3) := by decide +kernel
theorem dL_acts_133 : decode cL_acts 133 = .ok (.ireturn, 1) := by decide +kernel
theorem dL_acts_134 : decode cL_acts 134 = .ok (.iload 6, 2) := by decide +kernel
theorem dL_acts_136 : decode cL_acts 136 = .ok (.ifCond .eq 8, 3) := by decide +kernel
theorem dL_acts_139 : decode cL_acts 139 = .ok (.iload 4, 2) := by decide +kernel
theorem dL_acts_141 : decode cL_acts 141 = .ok (.ifCond .ne 11, 3) := by decide +kernel
theorem dL_acts_144 : decode cL_acts 144 = .ok (.aload_n 0, 1) := by decide +kernel
theorem dL_acts_145 : decode cL_acts 145 = .ok (.iconst 3, 1) := by decide +kernel
theorem dL_acts_146 : decode cL_acts 146 = .ok (.invokevirtual 114, 3) := by decide +kernel
theorem dL_acts_149 : decode cL_acts 149 = .ok (.goto 40, 3) := by decide +kernel
theorem dL_acts_152 : decode cL_acts 152 = .ok (.aload_n 0, 1) := by decide +kernel
theorem dL_acts_153 : decode cL_acts 153 = .ok (.iload_n 2, 1) := by decide +kernel
theorem dL_acts_154 : decode cL_acts 154 = .ok (.iload 6, 2) := by decide +kernel
theorem dL_acts_156 : decode cL_acts 156 = .ok (.irem, 1) := by decide +kernel
theorem dL_acts_157 : decode cL_acts 157 = .ok (.bipush 8, 2) := by decide +kernel
theorem dL_acts_159 : decode cL_acts 159 = .ok (.iload_n 3, 1) := by decide +kernel
theorem dL_acts_160 : decode cL_acts 160 = .ok (.bipush 40, 2) := by decide +kernel
theorem dL_acts_162 : decode cL_acts 162 = .ok (.irem, 1) := by decide +kernel
theorem dL_acts_163 : decode cL_acts 163 = .ok (.imul, 1) := by decide +kernel
theorem dL_acts_164 : decode cL_acts 164 = .ok (.iconst 1, 1) := by decide +kernel
theorem dL_acts_165 : decode cL_acts 165 = .ok (.iload_n 2, 1) := by decide +kernel
theorem dL_acts_166 : decode cL_acts 166 = .ok (.bipush 60, 2) := by decide +kernel
theorem dL_acts_168 : decode cL_acts 168 = .ok (.irem, 1) := by decide +kernel
theorem dL_acts_169 : decode cL_acts 169 = .ok (.iadd, 1) := by decide +kernel
theorem dL_acts_170 : decode cL_acts 170 = .ok (.iload_n 3, 1) := by decide +kernel
theorem dL_acts_171 : decode cL_acts 171 = .ok (.sipush 256, 3) := by decide +kernel
theorem dL_acts_174 : decode cL_acts 174 = .ok (.irem, 1) := by decide +kernel
theorem dL_acts_175 : decode cL_acts 175 = .ok (.iload_n 3, 1) := by decide +kernel
theorem dL_acts_176 : decode cL_acts 176 = .ok (.iconst 3, 1) := by decide +kernel
theorem dL_acts_177 : decode cL_acts 177 = .ok (.irem, 1) := by decide +kernel
theorem dL_acts_178 : decode cL_acts 178 = .ok (.ifCond .le 7, 3) := by decide +kernel
theorem dL_acts_181 : decode cL_acts 181 = .ok (.iconst 1, 1) := by decide +kernel
theorem dL_acts_182 : decode cL_acts 182 = .ok (.goto 4, 3) := by decide +kernel
theorem dL_acts_185 : decode cL_acts 185 = .ok (.iconst 0, 1) := by decide +kernel
theorem dL_acts_186 : decode cL_acts 186 = .ok (.invokevirtual 167, 3) := by decide +kernel
theorem dL_acts_189 : decode cL_acts 189 = .ok (.ireturn, 1) := by decide +kernel
theorem dL_acts_190 : decode cL_acts 190 = .ok (.aload_n 0, 1) := by decide +kernel
theorem dL_acts_191 : decode cL_acts 191 = .ok (.iload 5, 2) := by decide +kernel
theorem dL_acts_193 : decode cL_acts 193 = .ok (.bipush 28, 2) := by decide +kernel
theorem dL_acts_195 : decode cL_acts 195 = .ok (.iload_n 3, 1) := by decide +kernel
theorem dL_acts_196 : decode cL_acts 196 = .ok (.sipush 300, 3) := by decide +kernel
theorem dL_acts_199 : decode cL_acts 199 = .ok (.irem, 1) := by decide +kernel
theorem dL_acts_200 : decode cL_acts 200 = .ok (.iadd, 1) := by decide +kernel
theorem dL_acts_201 : decode cL_acts 201 = .ok (.invokevirtual 171, 3) := by decide +kernel
theorem dL_acts_204 : decode cL_acts 204 = .ok (.ireturn, 1) := by decide +kernel
theorem dL_acts_205 : decode cL_acts 205 = .ok (.aload_n 0, 1) := by decide +kernel
theorem dL_acts_206 : decode cL_acts 206 = .ok (.iload 5, 2) := by decide +kernel
theorem dL_acts_208 : decode cL_acts 208 = .ok (.iload_n 3, 1) := by decide +kernel
theorem dL_acts_209 : decode cL_acts 209 = .ok (.bipush 12, 2) := by decide +kernel
theorem dL_acts_211 : decode cL_acts 211 = .ok (.irem, 1) := by decide +kernel
theorem dL_acts_212 : decode cL_acts 212 = .ok (.invokevirtual 174, 3) := by decide +kernel
theorem dL_acts_215 : decode cL_acts 215 = .ok (.ireturn, 1) := by decide +kernel
theorem dL_acts_216 : decode cL_acts 216 = .ok (.aload_n 0, 1) := by decide +kernel
theorem dL_acts_217 : decode cL_acts 217 = .ok (.iconst 5, 1) := by decide +kernel
theorem dL_acts_218 : decode cL_acts 218 = .ok (.iload_n 3, 1) := by decide +kernel
theorem dL_acts_219 : decode cL_acts 219 = .ok (.bipush 100, 2) := by decide +kernel
theorem dL_acts_221 : decode cL_acts 221 = .ok (.irem, 1) := by decide +kernel
theorem dL_acts_222 : decode cL_acts 222 = .ok (.iadd, 1) := by decide +kernel
theorem dL_acts_223 : decode cL_acts 223 = .ok (.invokevirtual 177, 3) := by decide +kernel
theorem dL_acts_226 : decode cL_acts 226 = .ok (.ireturn, 1) := by decide +kernel
theorem dL_acts_227 : decode cL_acts 227 = .ok (.iload_n 2, 1) := by decide +kernel
theorem dL_acts_228 : decode cL_acts 228 = .ok (.iconst 2, 1) := by decide +kernel
theorem dL_acts_229 : decode cL_acts 229 = .ok (.irem, 1) := by decide +kernel
theorem dL_acts_230 : decode cL_acts 230 = .ok (.ifCond .ne 13, 3) := by decide +kernel
theorem dL_acts_233 : decode cL_acts 233 = .ok (.aload_n 0, 1) := by decide +kernel
theorem dL_acts_234 : decode cL_acts 234 = .ok (.iload_n 3, 1) := by decide +kernel
theorem dL_acts_235 : decode cL_acts 235 = .ok (.iconst 3, 1) := by decide +kernel
theorem dL_acts_236 : decode cL_acts 236 = .ok (.irem, 1) := by decide +kernel
theorem dL_acts_237 : decode cL_acts 237 = .ok (.invokevirtual 180, 3) := by decide +kernel
theorem dL_acts_240 : decode cL_acts 240 = .ok (.goto 7, 3) := by decide +kernel
theorem dL_acts_243 : decode cL_acts 243 = .ok (.aload_n 0, 1) := by decide +kernel
theorem dL_acts_244 : decode cL_acts 244 = .ok (.invokevirtual 158, 3) := by decide +kernel
theorem dL_acts_247 : decode cL_acts 247 = .ok (.ireturn, 1) := by decide +kernel
theorem dL_acts_248 : decode cL_acts 248 = .ok (.aload_n 0, 1) := by decide +kernel
theorem dL_acts_249 : decode cL_acts 249 = .ok (.iconst 1, 1) := by decide +kernel
theorem dL_acts_250 : decode cL_acts 250 = .ok (.iload_n 3, 1) := by decide +kernel
theorem dL_acts_251 : decode cL_acts 251 = .ok (.bipush 60, 2) := by decide +kernel
theorem dL_acts_253 : decode cL_acts 253 = .ok (.irem, 1) := by decide +kernel
theorem dL_acts_254 : decode cL_acts 254 = .ok (.iadd, 1) := by decide +kernel
theorem dL_acts_255 : decode cL_acts 255 = .ok (.invokevirtual 114, 3) := by decide +kernel
theorem dL_acts_258 : decode cL_acts 258 = .ok (.ireturn, 1) := by decide +kernel
/-! L_foretells -/
theorem dL_foretells_0 : decode cL_foretells 0 = .ok (.aload_n 0, 1) := by decide +kernel
theorem dL_foretells_1 : decode cL_foretells 1 = .ok (.invokestatic 95, 3) := by decide +kernel
theorem dL_foretells_4 : decode cL_foretells 4 = .ok (.lstore_n 3, 1) := by decide +kernel
theorem dL_foretells_5 : decode cL_foretells 5 = .ok (.aload_n 0, 1) := by decide +kernel
theorem dL_foretells_6 : decode cL_foretells 6 = .ok (.iload_n 1, 1) := by decide +kernel
theorem dL_foretells_7 : decode cL_foretells 7 = .ok (.invokevirtual 99, 3) := by decide +kernel
theorem dL_foretells_10 : decode cL_foretells 10 = .ok (.istore 5, 2) := by decide +kernel
theorem dL_foretells_12 : decode cL_foretells 12 = .ok (.aload_n 0, 1) := by decide +kernel
theorem dL_foretells_13 : decode cL_foretells 13 = .ok (.iload_n 1, 1) := by decide +kernel
theorem dL_foretells_14 : decode cL_foretells 14 = .ok (.invokevirtual 102, 3) := by decide +kernel
theorem dL_foretells_17 : decode cL_foretells 17 = .ok (.istore 6, 2) := by decide +kernel
theorem dL_foretells_19 : decode cL_foretells 19 = .ok (.aload_n 0, 1) := by decide +kernel
theorem dL_foretells_20 : decode cL_foretells 20 = .ok (.iload_n 2, 1) := by decide +kernel
theorem dL_foretells_21 : decode cL_foretells 21 = .ok (.invokevirtual 105, 3) := by decide +kernel
theorem dL_foretells_24 : decode cL_foretells 24 = .ok (.istore 7, 2) := by decide +kernel
theorem dL_foretells_26 : decode cL_foretells 26 = .ok (.aload_n 0, 1) := by decide +kernel
theorem dL_foretells_27 : decode cL_foretells 27 = .ok (.invokevirtual 108, 3) := by decide +kernel
theorem dL_foretells_30 : decode cL_foretells 30 = .ok (.istore 8, 2) := by decide +kernel
theorem dL_foretells_32 : decode cL_foretells 32 = .ok (.aload_n 0, 1) := by decide +kernel
theorem dL_foretells_33 : decode cL_foretells 33 = .ok (.aload_n 0, 1) := by decide +kernel
theorem dL_foretells_34 : decode cL_foretells 34 = .ok (.iconst 3, 1) := by decide +kernel
theorem dL_foretells_35 : decode cL_foretells 35 = .ok (.invokevirtual 56, 3) := by decide +kernel
theorem dL_foretells_38 : decode cL_foretells 38 = .ok (.aload_n 0, 1) := by decide +kernel
theorem dL_foretells_39 : decode cL_foretells 39 = .ok (.iconst 4, 1) := by decide +kernel
theorem dL_foretells_40 : decode cL_foretells 40 = .ok (.invokevirtual 56, 3) := by decide +kernel
theorem dL_foretells_43 : decode cL_foretells 43 = .ok (.invokevirtual 111, 3) := by decide +kernel
theorem dL_foretells_46 : decode cL_foretells 46 = .ok (.istore 9, 2) := by decide +kernel
theorem dL_foretells_48 : decode cL_foretells 48 = .ok (.aload_n 0, 1) := by decide +kernel
theorem dL_foretells_49 : decode cL_foretells 49 = .ok (.invokestatic 95, 3) := by decide +kernel
theorem dL_foretells_52 : decode cL_foretells 52 = .ok (.lload_n 3, 1) := by decide +kernel
theorem dL_foretells_53 : decode cL_foretells 53 = .ok (.lcmp, 1) := by decide +kernel
theorem dL_foretells_54 : decode cL_foretells 54 = .ok (.ifCond .ne 91, 3) := by decide +kernel
theorem dL_foretells_57 : decode cL_foretells 57 = .ok (.iload 5, 2) := by decide +kernel
theorem dL_foretells_59 : decode cL_foretells 59 = .ok (.ifCond .lt 10, 3) := by decide +kernel
theorem dL_foretells_62 : decode cL_foretells 62 = .ok (.iload 5, 2) := by decide +kernel
theorem dL_foretells_64 : decode cL_foretells 64 = .ok (.iload 6, 2) := by decide +kernel
theorem dL_foretells_66 : decode cL_foretells 66 = .ok (.if_icmp .ne 79, 3) := by decide +kernel
theorem dL_foretells_69 : decode cL_foretells 69 = .ok (.iload 5, 2) := by decide +kernel
theorem dL_foretells_71 : decode cL_foretells 71 = .ok (.ifCond .ne 7, 3) := by decide +kernel
theorem dL_foretells_74 : decode cL_foretells 74 = .ok (.iconst 1, 1) := by decide +kernel
theorem dL_foretells_75 : decode cL_foretells 75 = .ok (.goto 4, 3) := by decide +kernel
theorem dL_foretells_78 : decode cL_foretells 78 = .ok (.iconst 0, 1) := by decide +kernel
theorem dL_foretells_79 : decode cL_foretells 79 = .ok (.aload_n 0, 1) := by decide +kernel
theorem dL_foretells_80 : decode cL_foretells 80 = .ok (.iload_n 1, 1) := by decide +kernel
theorem dL_foretells_81 : decode cL_foretells 81 = .ok (.iconst 5, 1) := by decide +kernel
theorem dL_foretells_82 : decode cL_foretells 82 = .ok (.invokevirtual 66, 3) := by decide +kernel
theorem dL_foretells_85 : decode cL_foretells 85 = .ok (.iconst 1, 1) := by decide +kernel
theorem dL_foretells_86 : decode cL_foretells 86 = .ok (.if_icmp .eq 13, 3) := by decide +kernel
theorem dL_foretells_89 : decode cL_foretells 89 = .ok (.aload_n 0, 1) := by decide +kernel
theorem dL_foretells_90 : decode cL_foretells 90 = .ok (.iload_n 1, 1) := by decide +kernel
theorem dL_foretells_91 : decode cL_foretells 91 = .ok (.iconst 5, 1) := by decide +kernel
theorem dL_foretells_92 : decode cL_foretells 92 = .ok (.invokevirtual 66, 3) := by decide +kernel
theorem dL_foretells_95 : decode cL_foretells 95 = .ok (.iconst 2, 1) := by decide +kernel
theorem dL_foretells_96 : decode cL_foretells 96 = .ok (.if_icmp .ne 7, 3) := by decide +kernel
theorem dL_foretells_99 : decode cL_foretells 99 = .ok (.iconst 1, 1) := by decide +kernel
theorem dL_foretells_100 : decode cL_foretells 100 = .ok (.goto 4, 3) := by decide +kernel
theorem dL_foretells_103 : decode cL_foretells 103 = .ok (.iconst 0, 1) := by decide +kernel
theorem dL_foretells_104 : decode cL_foretells 104 = .ok (.if_icmp .ne 41, 3) := by decide +kernel
theorem dL_foretells_107 : decode cL_foretells 107 = .ok (.iload 9, 2) := by decide +kernel
theorem dL_foretells_109 : decode cL_foretells 109 = .ok (.aload_n 0, 1) := by decide +kernel
theorem dL_foretells_110 : decode cL_foretells 110 = .ok (.bipush 13, 2) := by decide +kernel
theorem dL_foretells_112 : decode cL_foretells 112 = .ok (.invokevirtual 56, 3) := by decide +kernel
theorem dL_foretells_115 : decode cL_foretells 115 = .ok (.if_icmp .lt 30, 3) := by decide +kernel
theorem dL_foretells_118 : decode cL_foretells 118 = .ok (.iload 6, 2) := by decide +kernel
theorem dL_foretells_120 : decode cL_foretells 120 = .ok (.ifCond .ne 7, 3) := by decide +kernel
theorem dL_foretells_123 : decode cL_foretells 123 = .ok (.iconst 1, 1) := by decide +kernel
theorem dL_foretells_124 : decode cL_foretells 124 = .ok (.goto 4, 3) := by decide +kernel
theorem dL_foretells_127 : decode cL_foretells 127 = .ok (.iconst 0, 1) := by decide +kernel
theorem dL_foretells_128 : decode cL_foretells 128 = .ok (.aload_n 0, 1) := by decide +kernel
theorem dL_foretells_129 : decode cL_foretells 129 = .ok (.iload_n 1, 1) := by decide +kernel
theorem dL_foretells_130 : decode cL_foretells 130 = .ok (.iconst 5, 1) := by decide +kernel
theorem dL_foretells_131 : decode cL_foretells 131 = .ok (.invokevirtual 66, 3) := by decide +kernel
theorem dL_foretells_134 : decode cL_foretells 134 = .ok (.ifCond .le 7, 3) := by decide +kernel
theorem dL_foretells_137 : decode cL_foretells 137 = .ok (.iconst 1, 1) := by decide +kernel
theorem dL_foretells_138 : decode cL_foretells 138 = .ok (.goto 4, 3) := by decide +kernel
theorem dL_foretells_141 : decode cL_foretells 141 = .ok (.iconst 0, 1) := by decide +kernel
theorem dL_foretells_142 : decode cL_foretells 142 = .ok (.if_icmp .eq 5, 3) := by decide +kernel
theorem dL_foretells_145 : decode cL_foretells 145 = .ok (.iconst 0, 1) := by decide +kernel
theorem dL_foretells_146 : decode cL_foretells 146 = .ok (.ireturn, 1) := by decide +kernel
theorem dL_foretells_147 : decode cL_foretells 147 = .ok (.aload_n 0, 1) := by decide +kernel
theorem dL_foretells_148 : decode cL_foretells 148 = .ok (.iload_n 2, 1) := by decide +kernel
theorem dL_foretells_149 : decode cL_foretells 149 = .ok (.invokevirtual 114, 3) := by decide +kernel
theorem dL_foretells_152 : decode cL_foretells 152 = .ok (.istore 10, 2) := by decide +kernel
theorem dL_foretells_154 : decode cL_foretells 154 = .ok (.iload 6, 2) := by decide +kernel
theorem dL_foretells_156 : decode cL_foretells 156 = .ok (.ifCond .lt 13, 3) := by decide +kernel
theorem dL_foretells_159 : decode cL_foretells 159 = .ok (.iload 6, 2) := by decide +kernel
theorem dL_foretells_161 : decode cL_foretells 161 = .ok (.iload_n 2, 1) := by decide +kernel
theorem dL_foretells_162 : decode cL_foretells 162 = .ok (.if_icmp .gt 7, 3) := by decide +kernel
theorem dL_foretells_165 : decode cL_foretells 165 = .ok (.iconst 1, 1) := by decide +kernel
theorem dL_foretells_166 : decode cL_foretells 166 = .ok (.goto 4, 3) := by decide +kernel
theorem dL_foretells_169 : decode cL_foretells 169 = .ok (.iconst 0, 1) := by decide +kernel
theorem dL_foretells_170 : decode cL_foretells 170 = .ok (.istore 11, 2) := by decide +kernel
theorem dL_foretells_172 : decode cL_foretells 172 = .ok (.aload_n 0, 1) := by decide +kernel
theorem dL_foretells_173 : decode cL_foretells 173 = .ok (.iconst 5, 1) := by decide +kernel
theorem dL_foretells_174 : decode cL_foretells 174 = .ok (.invokevirtual 56, 3) := by decide +kernel
theorem dL_foretells_177 : decode cL_foretells 177 = .ok (.iload 7, 2) := by decide +kernel
theorem dL_foretells_179 : decode cL_foretells 179 = .ok (.if_icmp .ne 77, 3) := by decide +kernel
theorem dL_foretells_182 : decode cL_foretells 182 = .ok (.aload_n 0, 1) := by decide +kernel
theorem dL_foretells_183 : decode cL_foretells 183 = .ok (.iload_n 1, 1) := by decide +kernel
theorem dL_foretells_184 : decode cL_foretells 184 = .ok (.iconst 5, 1) := by decide +kernel
theorem dL_foretells_185 : decode cL_foretells 185 = .ok (.invokevirtual 66, 3) := by decide +kernel
theorem dL_foretells_188 : decode cL_foretells 188 = .ok (.ifCond .le 7, 3) := by decide +kernel
theorem dL_foretells_191 : decode cL_foretells 191 = .ok (.iconst 1, 1) := by decide +kernel
theorem dL_foretells_192 : decode cL_foretells 192 = .ok (.goto 4, 3) := by decide +kernel
theorem dL_foretells_195 : decode cL_foretells 195 = .ok (.iconst 0, 1) := by decide +kernel
theorem dL_foretells_196 : decode cL_foretells 196 = .ok (.iload 11, 2) := by decide +kernel
theorem dL_foretells_198 : decode cL_foretells 198 = .ok (.if_icmp .ne 58, 3) := by decide +kernel
theorem dL_foretells_201 : decode cL_foretells 201 = .ok (.iload 11, 2) := by decide +kernel
theorem dL_foretells_203 : decode cL_foretells 203 = .ok (.ifCond .eq 28, 3) := by decide +kernel
theorem dL_foretells_206 : decode cL_foretells 206 = .ok (.iload 6, 2) := by decide +kernel
theorem dL_foretells_208 : decode cL_foretells 208 = .ok (.ifCond .le 23, 3) := by decide +kernel
theorem dL_foretells_211 : decode cL_foretells 211 = .ok (.aload_n 0, 1) := by decide +kernel
theorem dL_foretells_212 : decode cL_foretells 212 = .ok (.iload_n 1, 1) := by decide +kernel
theorem dL_foretells_213 : decode cL_foretells 213 = .ok (.bipush 6, 2) := by decide +kernel
theorem dL_foretells_215 : decode cL_foretells 215 = .ok (.invokevirtual 66, 3) := by decide +kernel
theorem dL_foretells_218 : decode cL_foretells 218 = .ok (.aload_n 0, 1) := by decide +kernel
theorem dL_foretells_219 : decode cL_foretells 219 = .ok (.iconst 2, 1) := by decide +kernel
theorem dL_foretells_220 : decode cL_foretells 220 = .ok (.invokevirtual 56, 3) := by decide +kernel
theorem dL_foretells_223 : decode cL_foretells 223 = .ok (.iload_n 2, 1) := by decide +kernel
theorem dL_foretells_224 : decode cL_foretells 224 = .ok (.isub, 1) := by decide +kernel
theorem dL_foretells_225 : decode cL_foretells 225 = .ok (.iload 6, 2) := by decide +kernel
theorem dL_foretells_227 : decode cL_foretells 227 = .ok (.iadd, 1) := by decide +kernel
theorem dL_foretells_228 : decode cL_foretells 228 = .ok (.if_icmp .ne 28, 3) := by decide +kernel
theorem dL_foretells_231 : decode cL_foretells 231 = .ok (.iload 5, 2) := by decide +kernel
theorem dL_foretells_233 : decode cL_foretells 233 = .ok (.ifCond .le 18, 3) := by decide +kernel
theorem dL_foretells_236 : decode cL_foretells 236 = .ok (.iload 11, 2) := by decide +kernel
theorem dL_foretells_238 : decode cL_foretells 238 = .ok (.ifCond .eq 13, 3) := by decide +kernel
theorem dL_foretells_241 : decode cL_foretells 241 = .ok (.aload_n 0, 1) := by decide +kernel
theorem dL_foretells_242 : decode cL_foretells 242 = .ok (.iload_n 1, 1) := by decide +kernel
theorem dL_foretells_243 : decode cL_foretells 243 = .ok (.iconst 5, 1) := by decide +kernel
theorem dL_foretells_244 : decode cL_foretells 244 = .ok (.invokevirtual 66, 3) := by decide +kernel
theorem dL_foretells_247 : decode cL_foretells 247 = .ok (.iconst 3, 1) := by decide +kernel
theorem dL_foretells_248 : decode cL_foretells 248 = .ok (.if_icmp .eq 8, 3) := by decide +kernel
theorem dL_foretells_251 : decode cL_foretells 251 = .ok (.iload 10, 2) := by decide +kernel
theorem dL_foretells_253 : decode cL_foretells 253 = .ok (.ifCond .ge 5, 3) := by decide +kernel
theorem dL_foretells_256 : decode cL_foretells 256 = .ok (.iconst 0, 1) := by decide +kernel
theorem dL_foretells_257 : decode cL_foretells 257 = .ok (.ireturn, 1) := by decide +kernel
theorem dL_foretells_258 : decode cL_foretells 258 = .ok (.iload 8, 2) := by decide +kernel
theorem dL_foretells_260 : decode cL_foretells 260 = .ok (.ifCond .lt 41, 3) := by decide +kernel
theorem dL_foretells_263 : decode cL_foretells 263 = .ok (.iload 8, 2) := by decide +kernel
theorem dL_foretells_265 : decode cL_foretells 265 = .ok (.iload_n 2, 1) := by decide +kernel
theorem dL_foretells_266 : decode cL_foretells 266 = .ok (.if_icmp .gt 35, 3) := by decide +kernel
theorem dL_foretells_269 : decode cL_foretells 269 = .ok (.aload_n 0, 1) := by decide +kernel
theorem dL_foretells_270 : decode cL_foretells 270 = .ok (.bipush 8, 2) := by decide +kernel
theorem dL_foretells_272 : decode cL_foretells 272 = .ok (.invokevirtual 56, 3) := by decide +kernel
theorem dL_foretells_275 : decode cL_foretells 275 = .ok (.aload_n 0, 1) := by decide +kernel
theorem dL_foretells_276 : decode cL_foretells 276 = .ok (.bipush 9, 2) := by decide +kernel
theorem dL_foretells_278 : decode cL_foretells 278 = .ok (.invokevirtual 56, 3) := by decide +kernel
theorem dL_foretells_281 : decode cL_foretells 281 = .ok (.iadd, 1) := by decide +kernel
theorem dL_foretells_282 : decode cL_foretells 282 = .ok (.aload_n 0, 1) := by decide +kernel
theorem dL_foretells_283 : decode cL_foretells 283 = .ok (.bipush 10, 2) := by decide +kernel
theorem dL_foretells_285 : decode cL_foretells 285 = .ok (.invokevirtual 56, 3) := by decide +kernel
theorem dL_foretells_288 : decode cL_foretells 288 = .ok (.iadd, 1) := by decide +kernel
theorem dL_foretells_289 : decode cL_foretells 289 = .ok (.aload_n 0, 1) := by decide +kernel
theorem dL_foretells_290 : decode cL_foretells 290 = .ok (.bipush 11, 2) := by decide +kernel
theorem dL_foretells_292 : decode cL_foretells 292 = .ok (.invokevirtual 56, 3) := by decide +kernel
theorem dL_foretells_295 : decode cL_foretells 295 = .ok (.iadd, 1) := by decide +kernel
theorem dL_foretells_296 : decode cL_foretells 296 = .ok (.ifCond .le 5, 3) := by decide +kernel
theorem dL_foretells_299 : decode cL_foretells 299 = .ok (.iconst 0, 1) := by decide +kernel
theorem dL_foretells_300 : decode cL_foretells 300 = .ok (.ireturn, 1) := by decide +kernel
theorem dL_foretells_301 : decode cL_foretells 301 = .ok (.aload_n 0, 1) := by decide +kernel
theorem dL_foretells_302 : decode cL_foretells 302 = .ok (.invokevirtual 117, 3) := by decide +kernel
theorem dL_foretells_305 : decode cL_foretells 305 = .ok (.ifCond .lt 16, 3) := by decide +kernel
theorem dL_foretells_308 : decode cL_foretells 308 = .ok (.aload_n 0, 1) := by decide +kernel
theorem dL_foretells_309 : decode cL_foretells 309 = .ok (.invokestatic 95, 3) := by decide +kernel
theorem dL_foretells_312 : decode cL_foretells 312 = .ok (.lload_n 3, 1) := by decide +kernel
theorem dL_foretells_313 : decode cL_foretells 313 = .ok (.lcmp, 1) := by decide +kernel
theorem dL_foretells_314 : decode cL_foretells 314 = .ok (.ifCond .ne 7, 3) := by decide +kernel
theorem dL_foretells_317 : decode cL_foretells 317 = .ok (.iconst 1, 1) := by decide +kernel
theorem dL_foretells_318 : decode cL_foretells 318 = .ok (.goto 4, 3) := by decide +kernel
theorem dL_foretells_321 : decode cL_foretells 321 = .ok (.iconst 0, 1) := by decide +kernel
theorem dL_foretells_322 : decode cL_foretells 322 = .ok (.ireturn, 1) := by decide +kernel
theorem hd_L_sum : yL_sum.cls ≠ "java/lang/invoke/MethodHandle" ∧ yL_sum.cls ≠ "java/lang/invoke/VarHandle" ∧ (parseMethodDescriptor yL_sum.desc).map (fun d => d.parameters.length) = some 1 := by decide +kernel
theorem hd_L_counts : yL_counts.cls ≠ "java/lang/invoke/MethodHandle" ∧ yL_counts.cls ≠ "java/lang/invoke/VarHandle" ∧ (parseMethodDescriptor yL_counts.desc).map (fun d => d.parameters.length) = some 1 := by decide +kernel
theorem hd_L_heap : yL_heap.cls ≠ "java/lang/invoke/MethodHandle" ∧ yL_heap.cls ≠ "java/lang/invoke/VarHandle" ∧ (parseMethodDescriptor yL_heap.desc).map (fun d => d.parameters.length) = some 2 := by decide +kernel
theorem hd_L_honest : yL_honest.cls ≠ "java/lang/invoke/MethodHandle" ∧ yL_honest.cls ≠ "java/lang/invoke/VarHandle" ∧ (parseMethodDescriptor yL_honest.desc).map (fun d => d.parameters.length) = some 1 := by decide +kernel
theorem hd_L_acts : yL_acts.cls ≠ "java/lang/invoke/MethodHandle" ∧ yL_acts.cls ≠ "java/lang/invoke/VarHandle" ∧ (parseMethodDescriptor yL_acts.desc).map (fun d => d.parameters.length) = some 5 := by decide +kernel
theorem hd_L_foretells : yL_foretells.cls ≠ "java/lang/invoke/MethodHandle" ∧ yL_foretells.cls ≠ "java/lang/invoke/VarHandle" ∧ (parseMethodDescriptor yL_foretells.desc).map (fun d => d.parameters.length) = some 3 := by decide +kernel
section LJ
variable {p : Program} {l : Launch} {e : Env} {R : Room} {s : State} {m : MethodId} {args : Array Value} {below : List Frame} {meth : Method} {c : Code} {H : Heap} {locs : List Loc} {cells slots : Nat} {Q : State → Prop}
variable {cc : ByteArray} {pc nL : Nat} {ls : Array Slot} {rest : List Value} {own : String} {D : va_G} {τ : Nat → ClassId} {A : Nat → Prop} {H0 : Heap} {B Cs Rs : List va_W}
theorem qJ {S : Type} {post : Int64 → S → Prop} {w1 : S → List va_W} {mc ms : Nat} {a : Array Value} {st0 : List Value} (Y : Wd D τ s A H0 (bl B) H locs) (is ir : List Nat) (hn : va_nd (is ++ ir) = true) (hC : (is ++ ir).map (fun i => B[i]?) = (Cs ++ Rs).map some)
    (hr : va_Run p l e R s m args below meth c H locs cells slots mc ms (F0 m pc ls st0) rest (va_Ql post (Bb D (va_A (bl Cs) H.size) w1) (va_A (bl Cs) H.size) a) (va_A (bl Cs) H.size))
    (kk : ∀ (r : Int64) (u : S) (H1 : Heap) (locs1 : List Loc), post r u → Wd D τ s A H0 (bl (w1 u ++ Rs)) H1 locs1 → W p l e R s m args below meth c H1 locs1 (cells + mc) (slots + ms) Q (F0 m (pc + 3) ls (.long r :: rest))) : W p l e R s m args below meth c H locs cells slots Q (F0 m pc ls st0) := by
  obtain ⟨hK, hP, hD, hS, hA⟩ := (Y.pick (is ++ ir) hn hC).eqv (List.flatten_append)
  have hDc : va_D A (bl Cs) := va_D_iff.mpr ⟨(List.pairwise_append.mp (va_D_iff.mp hD).1).1, fun q hq => (va_D_iff.mp hD).2 q (List.mem_append_left _ hq)⟩
  have hFc := blk_free hDc hS hA
  refine va_calll hr hS (fun q _ h => hFc q h) hFc (fun r u t H1 locs1 ht hvm hw hB hz1 hk1 hS1 => ?_)
  obtain ⟨hP1, hD1⟩ := hB
  rw [ht] at hP1
  obtain ⟨hPj, hDj⟩ := blk_join hP hD hk1 hFc hP1 hD1
  have e : bl (w1 u) ++ bl Rs = bl (w1 u ++ Rs) := List.flatten_append.symm
  rw [show List.flatten Rs = bl Rs from rfl, e] at hPj hDj
  exact kk r u H1 locs1 hw ⟨hK, hPj, hDj, hS1, hA⟩
theorem qF {S : Type} {post : UInt32 → S → Prop} {w1 : S → List va_W} {mc ms : Nat} {a : Array Value} {st0 : List Value} (Y : Wd D τ s A H0 (bl B) H locs) (is ir : List Nat) (hn : va_nd (is ++ ir) = true) (hC : (is ++ ir).map (fun i => B[i]?) = (Cs ++ Rs).map some)
    (hr : va_Run p l e R s m args below meth c H locs cells slots mc ms (F0 m pc ls st0) rest (va_Qf post (Bb D (va_A (bl Cs) H.size) w1) (va_A (bl Cs) H.size) a) (va_A (bl Cs) H.size))
    (kk : ∀ (r : UInt32) (u : S) (H1 : Heap) (locs1 : List Loc), post r u → Wd D τ s A H0 (bl (w1 u ++ Rs)) H1 locs1 → W p l e R s m args below meth c H1 locs1 (cells + mc) (slots + ms) Q (F0 m (pc + 3) ls (.float r :: rest))) : W p l e R s m args below meth c H locs cells slots Q (F0 m pc ls st0) := by
  obtain ⟨hK, hP, hD, hS, hA⟩ := (Y.pick (is ++ ir) hn hC).eqv (List.flatten_append)
  have hDc : va_D A (bl Cs) := va_D_iff.mpr ⟨(List.pairwise_append.mp (va_D_iff.mp hD).1).1, fun q hq => (va_D_iff.mp hD).2 q (List.mem_append_left _ hq)⟩
  have hFc := blk_free hDc hS hA
  refine va_callf hr hS (fun q _ h => hFc q h) hFc (fun r u t H1 locs1 ht hvm hw hB hz1 hk1 hS1 => ?_)
  obtain ⟨hP1, hD1⟩ := hB
  rw [ht] at hP1
  obtain ⟨hPj, hDj⟩ := blk_join hP hD hk1 hFc hP1 hD1
  have e : bl (w1 u) ++ bl Rs = bl (w1 u ++ Rs) := List.flatten_append.symm
  rw [show List.flatten Rs = bl Rs from rfl, e] at hPj hDj
  exact kk r u H1 locs1 hw ⟨hK, hPj, hDj, hS1, hA⟩
end LJ
/-! what is asked of a state -/
def sizV (z : St) (bk : Int) : Nat → Int := vec [z.1 6, z.1 7, z.1 0, z.1 1, z.1 2, z.1 3, z.1 4, z.1 5, totQ z.2.2.2.2.2.1 6, (z.2.2.2.2.2.2.1.length : Int) - ansL z.2.2.2.2.2.2.1, ansL z.2.2.2.2.2.2.1, hcnt z.2.2.2.1 4, fcnt z.2.2.1 0 (z.1 7).toNat, fcnt z.2.2.1 1 (z.1 7).toNat + fcnt z.2.2.1 2 (z.1 7).toNat, fcnt z.2.2.1 3 (z.1 7).toNat, bk]
def lnkV (z : St) (k : Nat) : Nat → Int := vec [z.2.1 k 0, z.2.1 k 1, z.2.1 k 2, z.2.1 k 3, ((z.2.2.2.2.2.1 k).length : Int), z.2.1 k 4, z.2.1 k 5, z.2.1 k 6, z.2.1 k 7]
def datV (z : St) (d : Nat) : Nat → Int := vec [z.2.2.1 d 0, z.2.2.1 d 1, z.2.2.1 d 2, z.2.2.1 d 3, z.2.2.1 d 4, z.2.2.1 d 5, z.2.2.1 d 6, z.2.2.1 d 7, cntP z.2.2.2.2.2.1 d 6]
def hofZ (z : St) (d : Nat) : Int := hofI z.2.2.2.1 d 4
def hepV (z : St) (d w : Nat) : Int := if hofZ z d = -1 then -1 else (vec [z.2.2.2.1 (hofZ z d).toNat 1, z.2.2.2.1 (hofZ z d).toNat 2, z.2.2.2.1 (hofZ z d).toNat 3, (if z.2.2.2.1 (hofZ z d).toNat 2 = -1 then 1 else 0) + cntH (z.2.2.2.2.1 (hofZ z d).toNat) (lhN (z.2.2.2.1 (hofZ z d).toNat 2) (z.2.2.2.1 (hofZ z d).toNat 6)), z.2.2.2.1 (hofZ z d).toNat 4, z.2.2.2.1 (hofZ z d).toNat 5, z.2.2.2.1 (hofZ z d).toNat 6]) w
def hbyV (z : St) (d : Nat) (x : Int) : Int := if hofZ z d = -1 then -1 else z.2.2.2.2.1 (hofZ z d).toNat x
def misV (z : St) (d : Nat) : Int := if hofZ z d = -1 then -1 else if z.2.2.2.1 (hofZ z d).toNat 2 = -1 then -1 else missI (z.2.2.2.2.1 (hofZ z d).toNat) 0 0 (z.2.2.2.1 (hofZ z d).toNat 2).toNat
def pakV (z : St) (i : Nat) : Nat → Int := pktV z.2.2.1 z.2.2.2.2.2.1 i
/-! the law's sum -/
def itN (f : Nat → Int64 → Int64) (a : Int64) (n : Nat) : Int64 := if h : n = 0 then a else f (n - 1) (itN f a (n - 1))
termination_by n
decreasing_by omega
theorem itN_0 (f : Nat → Int64 → Int64) (a : Int64) : itN f a 0 = a := by rw [itN, dif_pos rfl]
theorem itN_s (f : Nat → Int64 → Int64) (a : Int64) (n : Nat) : itN f a (n + 1) = f n (itN f a n) := by rw [itN, dif_neg (by omega), Nat.add_sub_cancel]
def h31 (a : Int64) (v : Int) : Int64 := 31 * a + Int32.toInt64 (iI v)
def sumA (z : St) (bk : Int) : Int64 := itN (fun k a => h31 a (sizV z bk k)) 0 15
def sumB (z : St) (bk : Int) : Int64 := itN (fun k a => h31 a (z.2.2.2.2.2.2.2 k)) (sumA z bk) 12
def smL (z : St) (k : Nat) (a : Int64) : Int64 := itN (fun w a => h31 a (lnkV z k w)) a 9
def sumC (z : St) (bk : Int) : Int64 := itN (smL z) (sumB z bk) (z.1 6).toNat
def smD1 (z : St) (d : Nat) (a : Int64) : Int64 := itN (fun w a => h31 a (datV z d w)) a 9
def smD2 (z : St) (d : Nat) (a : Int64) : Int64 := itN (fun w a => h31 a (hepV z d w)) (smD1 z d a) 7
def smD (z : St) (d : Nat) (a : Int64) : Int64 := itN (fun k a => h31 a (hbyV z d ((7 * k : Nat) : Int))) (smD2 z d a) 40
def sumD (z : St) (bk : Int) : Int64 := itN (smD z) (sumC z bk) (z.1 7).toNat
def smP (z : St) (i : Nat) (a : Int64) : Int64 := itN (fun w a => h31 a (pakV z i w)) a 7
def sumF (z : St) (bk : Int) : Int64 := itN (smP z) (sumD z bk) (min (totQ z.2.2.2.2.2.1 6) 9)
set_option maxHeartbeats 2000000 in
set_option maxRecDepth 100000 in
theorem h_sum (l : Launch) (D : va_G) (τ : Nat → ClassId) (sz : Nat) (K : Nat → Nat) (bs Ln : Nat) (xs : Nat → Int32) (q9 rd tx bd pa9 : Nat) (ol bk : Int) (tr kp : Option Nat) (F : Nat → Nat) (z : St) (y : CL) (hRC : RepC z y) (hOK : StOk z) (htm : z.1 0 < 700000) : Met l yL_sum (Cond.code yL_sum cL_sum 5 (some .long) :: wALL) { frames := 5, cells := 0, slots := 0, locals := 108 } (PwE (EL K bs Ln xs) D τ (bl [[(q9, .inr (11, [.ref rd, .ref tx, .ref bd, .ref (F 0), .ref pa9, .int (iI (ol)), .int (iI (bk)), va_rf tr, va_rf kp]))], [((F 0), .inr (9, [.int (iI (z.1 0)), .int (iI (z.1 1)), .int (iI (z.1 2)), .int (iI (z.1 3)), .int (iI (z.1 4)), .int (iI (z.1 5)), .int (iI (z.1 6)), .int (iI (z.1 7)), .ref (F 1), .ref (F 2), .ref (F 3), .ref (F 4), .ref (F 5), .ref (F 6)]))], [((F 1), .inl (τ 3, 6, .inr (.inr (.inr (.inr (fun i => some (F (10 + i))))))))], (fam 6 (lkC F z.2.1)), [((F 2), .inl (τ 4, 40, .inr (.inr (.inr (.inr (fun i => some (F (20 + i))))))))], (fam 40 (dgC F z.2.2.1)), [((F 3), .inl (τ 5, 4, .inr (.inr (.inr (.inr (fun i => some (F (60 + i))))))))], (fam 4 (hpC F z.2.2.2.1 y.1)), (fam 4 (hvC τ y.1 y.2.1 y.2.2.1)), (pkB τ (F 4) (fun i => F (70 + i)) y.2.2.2.1.1 y.2.2.2.1.2.1 y.2.2.2.1.2.2.1 y.2.2.2.1.2.2.2), (ntB τ (F 5) y.2.2.2.2.1 y.2.2.2.2.2.1 y.2.2.2.2.2.2.1 y.2.2.2.2.2.2.2.1 y.2.2.2.2.2.2.2.2), [((F 6), .inr (2, [.int (iI (z.2.2.2.2.2.2.2 0)), .int (iI (z.2.2.2.2.2.2.2 1)), .int (iI (z.2.2.2.2.2.2.2 2)), .int (iI (z.2.2.2.2.2.2.2 3)), .int (iI (z.2.2.2.2.2.2.2 4)), .int (iI (z.2.2.2.2.2.2.2 5)), .int (iI (z.2.2.2.2.2.2.2 6)), .int (iI (z.2.2.2.2.2.2.2 7)), .int (iI (z.2.2.2.2.2.2.2 8)), .int (iI (z.2.2.2.2.2.2.2 9)), .int (iI (z.2.2.2.2.2.2.2 10)), .int (iI (z.2.2.2.2.2.2.2 11)), .int (iI (z.2.2.2.2.2.2.2 12))]))]]) sz [.ref q9]) (va_Ql (fun (r : Int64) (u : CL) => r = sumF z bk ∧ RepC z u ∧ potC u = potC y ∧ potS u = potS y) (Bb D (va_A (bl [[(q9, .inr (11, [.ref rd, .ref tx, .ref bd, .ref (F 0), .ref pa9, .int (iI (ol)), .int (iI (bk)), va_rf tr, va_rf kp]))], [((F 0), .inr (9, [.int (iI (z.1 0)), .int (iI (z.1 1)), .int (iI (z.1 2)), .int (iI (z.1 3)), .int (iI (z.1 4)), .int (iI (z.1 5)), .int (iI (z.1 6)), .int (iI (z.1 7)), .ref (F 1), .ref (F 2), .ref (F 3), .ref (F 4), .ref (F 5), .ref (F 6)]))], [((F 1), .inl (τ 3, 6, .inr (.inr (.inr (.inr (fun i => some (F (10 + i))))))))], (fam 6 (lkC F z.2.1)), [((F 2), .inl (τ 4, 40, .inr (.inr (.inr (.inr (fun i => some (F (20 + i))))))))], (fam 40 (dgC F z.2.2.1)), [((F 3), .inl (τ 5, 4, .inr (.inr (.inr (.inr (fun i => some (F (60 + i))))))))], (fam 4 (hpC F z.2.2.2.1 y.1)), (fam 4 (hvC τ y.1 y.2.1 y.2.2.1)), (pkB τ (F 4) (fun i => F (70 + i)) y.2.2.2.1.1 y.2.2.2.1.2.1 y.2.2.2.1.2.2.1 y.2.2.2.1.2.2.2), (ntB τ (F 5) y.2.2.2.2.1 y.2.2.2.2.2.1 y.2.2.2.2.2.2.1 y.2.2.2.2.2.2.2.1 y.2.2.2.2.2.2.2.2), [((F 6), .inr (2, [.int (iI (z.2.2.2.2.2.2.2 0)), .int (iI (z.2.2.2.2.2.2.2 1)), .int (iI (z.2.2.2.2.2.2.2 2)), .int (iI (z.2.2.2.2.2.2.2 3)), .int (iI (z.2.2.2.2.2.2.2 4)), .int (iI (z.2.2.2.2.2.2.2 5)), .int (iI (z.2.2.2.2.2.2.2 6)), .int (iI (z.2.2.2.2.2.2.2 7)), .int (iI (z.2.2.2.2.2.2.2 8)), .int (iI (z.2.2.2.2.2.2.2 9)), .int (iI (z.2.2.2.2.2.2.2 10)), .int (iI (z.2.2.2.2.2.2.2 11)), .int (iI (z.2.2.2.2.2.2.2 12))]))]]) sz) (fun (u : CL) => [[(q9, .inr (11, [.ref rd, .ref tx, .ref bd, .ref (F 0), .ref pa9, .int (iI (ol)), .int (iI (bk)), va_rf tr, va_rf kp]))], [((F 0), .inr (9, [.int (iI (z.1 0)), .int (iI (z.1 1)), .int (iI (z.1 2)), .int (iI (z.1 3)), .int (iI (z.1 4)), .int (iI (z.1 5)), .int (iI (z.1 6)), .int (iI (z.1 7)), .ref (F 1), .ref (F 2), .ref (F 3), .ref (F 4), .ref (F 5), .ref (F 6)]))], [((F 1), .inl (τ 3, 6, .inr (.inr (.inr (.inr (fun i => some (F (10 + i))))))))], (fam 6 (lkC F z.2.1)), [((F 2), .inl (τ 4, 40, .inr (.inr (.inr (.inr (fun i => some (F (20 + i))))))))], (fam 40 (dgC F z.2.2.1)), [((F 3), .inl (τ 5, 4, .inr (.inr (.inr (.inr (fun i => some (F (60 + i))))))))], (fam 4 (hpC F z.2.2.2.1 u.1)), (fam 4 (hvC τ u.1 u.2.1 u.2.2.1)), (pkB τ (F 4) (fun i => F (70 + i)) u.2.2.2.1.1 u.2.2.2.1.2.1 u.2.2.2.1.2.2.1 u.2.2.2.1.2.2.2), (ntB τ (F 5) u.2.2.2.2.1 u.2.2.2.2.2.1 u.2.2.2.2.2.2.1 u.2.2.2.2.2.2.2.1 u.2.2.2.2.2.2.2.2), [((F 6), .inr (2, [.int (iI (z.2.2.2.2.2.2.2 0)), .int (iI (z.2.2.2.2.2.2.2 1)), .int (iI (z.2.2.2.2.2.2.2 2)), .int (iI (z.2.2.2.2.2.2.2 3)), .int (iI (z.2.2.2.2.2.2.2 4)), .int (iI (z.2.2.2.2.2.2.2 5)), .int (iI (z.2.2.2.2.2.2.2 6)), .int (iI (z.2.2.2.2.2.2.2 7)), .int (iI (z.2.2.2.2.2.2.2 8)), .int (iI (z.2.2.2.2.2.2.2 9)), .int (iI (z.2.2.2.2.2.2.2 10)), .int (iI (z.2.2.2.2.2.2.2 11)), .int (iI (z.2.2.2.2.2.2.2 12))]))]])) (va_A (bl [[(q9, .inr (11, [.ref rd, .ref tx, .ref bd, .ref (F 0), .ref pa9, .int (iI (ol)), .int (iI (bk)), va_rf tr, va_rf kp]))], [((F 0), .inr (9, [.int (iI (z.1 0)), .int (iI (z.1 1)), .int (iI (z.1 2)), .int (iI (z.1 3)), .int (iI (z.1 4)), .int (iI (z.1 5)), .int (iI (z.1 6)), .int (iI (z.1 7)), .ref (F 1), .ref (F 2), .ref (F 3), .ref (F 4), .ref (F 5), .ref (F 6)]))], [((F 1), .inl (τ 3, 6, .inr (.inr (.inr (.inr (fun i => some (F (10 + i))))))))], (fam 6 (lkC F z.2.1)), [((F 2), .inl (τ 4, 40, .inr (.inr (.inr (.inr (fun i => some (F (20 + i))))))))], (fam 40 (dgC F z.2.2.1)), [((F 3), .inl (τ 5, 4, .inr (.inr (.inr (.inr (fun i => some (F (60 + i))))))))], (fam 4 (hpC F z.2.2.2.1 y.1)), (fam 4 (hvC τ y.1 y.2.1 y.2.2.1)), (pkB τ (F 4) (fun i => F (70 + i)) y.2.2.2.1.1 y.2.2.2.1.2.1 y.2.2.2.1.2.2.1 y.2.2.2.1.2.2.2), (ntB τ (F 5) y.2.2.2.2.1 y.2.2.2.2.2.1 y.2.2.2.2.2.2.1 y.2.2.2.2.2.2.2.1 y.2.2.2.2.2.2.2.2), [((F 6), .inr (2, [.int (iI (z.2.2.2.2.2.2.2 0)), .int (iI (z.2.2.2.2.2.2.2 1)), .int (iI (z.2.2.2.2.2.2.2 2)), .int (iI (z.2.2.2.2.2.2.2 3)), .int (iI (z.2.2.2.2.2.2.2 4)), .int (iI (z.2.2.2.2.2.2.2 5)), .int (iI (z.2.2.2.2.2.2.2 6)), .int (iI (z.2.2.2.2.2.2.2 7)), .int (iI (z.2.2.2.2.2.2.2 8)), .int (iI (z.2.2.2.2.2.2.2 9)), .int (iI (z.2.2.2.2.2.2.2 10)), .int (iI (z.2.2.2.2.2.2.2 11)), .int (iI (z.2.2.2.2.2.2.2 12))]))]]) sz)) 0 0 (va_A (bl [[(q9, .inr (11, [.ref rd, .ref tx, .ref bd, .ref (F 0), .ref pa9, .int (iI (ol)), .int (iI (bk)), va_rf tr, va_rf kp]))], [((F 0), .inr (9, [.int (iI (z.1 0)), .int (iI (z.1 1)), .int (iI (z.1 2)), .int (iI (z.1 3)), .int (iI (z.1 4)), .int (iI (z.1 5)), .int (iI (z.1 6)), .int (iI (z.1 7)), .ref (F 1), .ref (F 2), .ref (F 3), .ref (F 4), .ref (F 5), .ref (F 6)]))], [((F 1), .inl (τ 3, 6, .inr (.inr (.inr (.inr (fun i => some (F (10 + i))))))))], (fam 6 (lkC F z.2.1)), [((F 2), .inl (τ 4, 40, .inr (.inr (.inr (.inr (fun i => some (F (20 + i))))))))], (fam 40 (dgC F z.2.2.1)), [((F 3), .inl (τ 5, 4, .inr (.inr (.inr (.inr (fun i => some (F (60 + i))))))))], (fam 4 (hpC F z.2.2.2.1 y.1)), (fam 4 (hvC τ y.1 y.2.1 y.2.2.1)), (pkB τ (F 4) (fun i => F (70 + i)) y.2.2.2.1.1 y.2.2.2.1.2.1 y.2.2.2.1.2.2.1 y.2.2.2.1.2.2.2), (ntB τ (F 5) y.2.2.2.2.1 y.2.2.2.2.2.1 y.2.2.2.2.2.2.1 y.2.2.2.2.2.2.2.1 y.2.2.2.2.2.2.2.2), [((F 6), .inr (2, [.int (iI (z.2.2.2.2.2.2.2 0)), .int (iI (z.2.2.2.2.2.2.2 1)), .int (iI (z.2.2.2.2.2.2.2 2)), .int (iI (z.2.2.2.2.2.2.2 3)), .int (iI (z.2.2.2.2.2.2.2 4)), .int (iI (z.2.2.2.2.2.2.2 5)), .int (iI (z.2.2.2.2.2.2.2 6)), .int (iI (z.2.2.2.2.2.2.2 7)), .int (iI (z.2.2.2.2.2.2.2 8)), .int (iI (z.2.2.2.2.2.2.2 9)), .int (iI (z.2.2.2.2.2.2.2 10)), .int (iI (z.2.2.2.2.2.2.2 11)), .int (iI (z.2.2.2.2.2.2.2 12))]))]]) sz) := by
  refine bodyE (by decide +kernel) (Nat.le_of_ble_eq_true rfl) (fun p e s m below meth c ls B hr hlk hin hsz Y hL hl => ?_)
  have hl : lv_has ls 5 [(0, .ref q9)] := hl
  have B : CallFix p m c cL_sum 5 s _ wALL RL := B
  generalize va_A (bl [[(q9, .inr (11, [.ref rd, .ref tx, .ref bd, .ref (F 0), .ref pa9, .int (iI (ol)), .int (iI (bk)), va_rf tr, va_rf kp]))], [((F 0), .inr (9, [.int (iI (z.1 0)), .int (iI (z.1 1)), .int (iI (z.1 2)), .int (iI (z.1 3)), .int (iI (z.1 4)), .int (iI (z.1 5)), .int (iI (z.1 6)), .int (iI (z.1 7)), .ref (F 1), .ref (F 2), .ref (F 3), .ref (F 4), .ref (F 5), .ref (F 6)]))], [((F 1), .inl (τ 3, 6, .inr (.inr (.inr (.inr (fun i => some (F (10 + i))))))))], (fam 6 (lkC F z.2.1)), [((F 2), .inl (τ 4, 40, .inr (.inr (.inr (.inr (fun i => some (F (20 + i))))))))], (fam 40 (dgC F z.2.2.1)), [((F 3), .inl (τ 5, 4, .inr (.inr (.inr (.inr (fun i => some (F (60 + i))))))))], (fam 4 (hpC F z.2.2.2.1 y.1)), (fam 4 (hvC τ y.1 y.2.1 y.2.2.1)), (pkB τ (F 4) (fun i => F (70 + i)) y.2.2.2.1.1 y.2.2.2.1.2.1 y.2.2.2.1.2.2.1 y.2.2.2.1.2.2.2), (ntB τ (F 5) y.2.2.2.2.1 y.2.2.2.2.2.1 y.2.2.2.2.2.2.1 y.2.2.2.2.2.2.2.1 y.2.2.2.2.2.2.2.2), [((F 6), .inr (2, [.int (iI (z.2.2.2.2.2.2.2 0)), .int (iI (z.2.2.2.2.2.2.2 1)), .int (iI (z.2.2.2.2.2.2.2 2)), .int (iI (z.2.2.2.2.2.2.2 3)), .int (iI (z.2.2.2.2.2.2.2 4)), .int (iI (z.2.2.2.2.2.2.2 5)), .int (iI (z.2.2.2.2.2.2.2 6)), .int (iI (z.2.2.2.2.2.2.2 7)), .int (iI (z.2.2.2.2.2.2.2 8)), .int (iI (z.2.2.2.2.2.2.2 9)), .int (iI (z.2.2.2.2.2.2.2 10)), .int (iI (z.2.2.2.2.2.2.2 11)), .int (iI (z.2.2.2.2.2.2.2 12))]))]]) sz = A at Y hL ⊢
  have hK := hL.1
  have hE := hK.1
  have h7 : 0 ≤ z.1 7 ∧ z.1 7 ≤ 40 := hOK.1.2.2.2.2.2.2.2
  have h66 : 1 ≤ z.1 6 ∧ z.1 6 ≤ 6 := hOK.1.2.2.2.2.2.2.1
  have hz00 : 0 ≤ z.1 0 := hOK.1.1
  have hI0 : HpIn z.2.2.2.1 := HpIn_of hOK.2.2.2.1 h7.2 (by omega)
  have hN0 : NtIn z.2.2.2.2.2.2.1 := NtIn_of hOK.2.2.2.2.2 h7.2 (by omega)
  have hD5 : ∀ e : Nat, (e : Int) < z.1 7 → 0 ≤ z.2.2.1 e 5 ∧ z.2.2.1 e 5 ≤ 3 := fun e he => (hOK.2.2.1 e he).2.2.2
  obtain ⟨nl, hnl⟩ : ∃ n : Nat, z.1 6 = n := ⟨(z.1 6).toNat, by omega⟩
  obtain ⟨nd, hnd⟩ : ∃ n : Nat, z.1 7 = n := ⟨(z.1 7).toNat, by omega⟩
  obtain ⟨np, hnp⟩ : ∃ n : Nat, ((totQ z.2.2.2.2.2.1 6 : Nat) : Int) = n := ⟨_, rfl⟩
  have hnp3 : np ≤ 300 := by have q1 := hRC.2.1.tot; have q2 := hRC.2.1.bounds; omega
  have hWz : ∀ k : Nat, k < 6 → ∀ x ∈ z.2.2.2.2.2.1 k, -1 ≤ x.2.1 ∧ x.2.1 < 1000 := fun k hk x hx => by have q := (hOK.2.2.2.2.1 k hk x hx).2; omega
  refine lv_lconst (v := 0) B.1 B.2.1 dL_sum_0 (by decide) ?_
  refine lv_lstore_n (lv' := [(1, .long 0), (0, .ref q9)]) B.1 B.2.1 dL_sum_1 rfl hl (by decide) rfl (fun ls hl => ?_)
  refine lv_iconst (v := (iI (0))) B.1 B.2.1 dL_sum_2 (by decide) ?_
  refine lv_istore_n (lv' := [(3, .int (iI (0))), (1, .long 0), (0, .ref q9)]) B.1 B.2.1 dL_sum_3 rfl hl (by decide) rfl (fun ls hl => ?_)
  have hl : lv_has ls 5 [(0, .ref q9), (1, .long (itN (fun k a => h31 a (sizV z bk k)) 0 0)), (3, .int (iI ((0 : Nat) : Int)))] := by rw [itN_0]; exact lv_sub hl [2, 1, 0] rfl
  refine loopW (n := 15) (P := fun (i : Nat) (H : Heap) (locs : List Loc) (ls : Array Slot) => lv_has ls 5 [(0, .ref q9), (1, .long (itN (fun k a => h31 a (sizV z bk k)) 0 i)), (3, .int (iI ((i : Nat) : Int)))] ∧ Wd D τ s A s.heap (bl [[(q9, .inr (11, [.ref rd, .ref tx, .ref bd, .ref (F 0), .ref pa9, .int (iI (ol)), .int (iI (bk)), va_rf tr, va_rf kp]))], [((F 0), .inr (9, [.int (iI (z.1 0)), .int (iI (z.1 1)), .int (iI (z.1 2)), .int (iI (z.1 3)), .int (iI (z.1 4)), .int (iI (z.1 5)), .int (iI (z.1 6)), .int (iI (z.1 7)), .ref (F 1), .ref (F 2), .ref (F 3), .ref (F 4), .ref (F 5), .ref (F 6)]))], [((F 1), .inl (τ 3, 6, .inr (.inr (.inr (.inr (fun i => some (F (10 + i))))))))], (fam 6 (lkC F z.2.1)), [((F 2), .inl (τ 4, 40, .inr (.inr (.inr (.inr (fun i => some (F (20 + i))))))))], (fam 40 (dgC F z.2.2.1)), [((F 3), .inl (τ 5, 4, .inr (.inr (.inr (.inr (fun i => some (F (60 + i))))))))], (fam 4 (hpC F z.2.2.2.1 y.1)), (fam 4 (hvC τ y.1 y.2.1 y.2.2.1)), (pkB τ (F 4) (fun i => F (70 + i)) y.2.2.2.1.1 y.2.2.2.1.2.1 y.2.2.2.1.2.2.1 y.2.2.2.1.2.2.2), (ntB τ (F 5) y.2.2.2.2.1 y.2.2.2.2.2.1 y.2.2.2.2.2.2.1 y.2.2.2.2.2.2.2.1 y.2.2.2.2.2.2.2.2), [((F 6), .inr (2, [.int (iI (z.2.2.2.2.2.2.2 0)), .int (iI (z.2.2.2.2.2.2.2 1)), .int (iI (z.2.2.2.2.2.2.2 2)), .int (iI (z.2.2.2.2.2.2.2 3)), .int (iI (z.2.2.2.2.2.2.2 4)), .int (iI (z.2.2.2.2.2.2.2 5)), .int (iI (z.2.2.2.2.2.2.2 6)), .int (iI (z.2.2.2.2.2.2.2 7)), .int (iI (z.2.2.2.2.2.2.2 8)), .int (iI (z.2.2.2.2.2.2.2 9)), .int (iI (z.2.2.2.2.2.2.2 10)), .int (iI (z.2.2.2.2.2.2.2 11)), .int (iI (z.2.2.2.2.2.2.2 12))]))]]) H locs) 0 (Nat.zero_le _) ⟨lv_sub hl [0, 1, 2] rfl, Y.pick [0, 1, 2, 3, 4, 5, 6, 7, 8, 9, 10, 11] (by decide) rfl⟩ (fun H locs ls hP => ?_) (fun i hlt H locs ls hP ih => ?_)
  · obtain ⟨hl, Y⟩ := hP
    refine lv_iload_n B.1 B.2.1 dL_sum_4 rfl (lv_at hl 2 rfl) ?_
    refine lv_bipush (v := (iI (15))) B.1 B.2.1 dL_sum_5 (by decide) ?_
    refine lv_icmp_ge (tgt := 29) B.1 B.2.1 dL_sum_7 (by decide) (fun _ => ?_) (fun h => absurd ((iI_le (a := 15) (b := ((15 : Nat) : Int)) (by omega) (by omega) (by omega) (by omega)).mpr (by omega)) h) 
    refine lv_iconst (v := (iI (0))) B.1 B.2.1 dL_sum_29 (by decide) ?_
    refine lv_istore_n (lv' := [(3, .int (iI (0))), (0, .ref q9), (1, .long (itN (fun k a => h31 a (sizV z bk k)) 0 15))]) B.1 B.2.1 dL_sum_30 rfl hl (by decide) rfl (fun ls hl => ?_)
    have hl : lv_has ls 5 [(0, .ref q9), (1, .long (itN (fun k a => h31 a (z.2.2.2.2.2.2.2 k)) (sumA z bk) 0)), (3, .int (iI ((0 : Nat) : Int)))] := by rw [itN_0]; exact lv_sub hl [1, 2, 0] rfl
    refine loopW (n := 12) (P := fun (i : Nat) (H : Heap) (locs : List Loc) (ls : Array Slot) => lv_has ls 5 [(0, .ref q9), (1, .long (itN (fun k a => h31 a (z.2.2.2.2.2.2.2 k)) (sumA z bk) i)), (3, .int (iI ((i : Nat) : Int)))] ∧ Wd D τ s A s.heap (bl [[(q9, .inr (11, [.ref rd, .ref tx, .ref bd, .ref (F 0), .ref pa9, .int (iI (ol)), .int (iI (bk)), va_rf tr, va_rf kp]))], [((F 0), .inr (9, [.int (iI (z.1 0)), .int (iI (z.1 1)), .int (iI (z.1 2)), .int (iI (z.1 3)), .int (iI (z.1 4)), .int (iI (z.1 5)), .int (iI (z.1 6)), .int (iI (z.1 7)), .ref (F 1), .ref (F 2), .ref (F 3), .ref (F 4), .ref (F 5), .ref (F 6)]))], [((F 1), .inl (τ 3, 6, .inr (.inr (.inr (.inr (fun i => some (F (10 + i))))))))], (fam 6 (lkC F z.2.1)), [((F 2), .inl (τ 4, 40, .inr (.inr (.inr (.inr (fun i => some (F (20 + i))))))))], (fam 40 (dgC F z.2.2.1)), [((F 3), .inl (τ 5, 4, .inr (.inr (.inr (.inr (fun i => some (F (60 + i))))))))], (fam 4 (hpC F z.2.2.2.1 y.1)), (fam 4 (hvC τ y.1 y.2.1 y.2.2.1)), (pkB τ (F 4) (fun i => F (70 + i)) y.2.2.2.1.1 y.2.2.2.1.2.1 y.2.2.2.1.2.2.1 y.2.2.2.1.2.2.2), (ntB τ (F 5) y.2.2.2.2.1 y.2.2.2.2.2.1 y.2.2.2.2.2.2.1 y.2.2.2.2.2.2.2.1 y.2.2.2.2.2.2.2.2), [((F 6), .inr (2, [.int (iI (z.2.2.2.2.2.2.2 0)), .int (iI (z.2.2.2.2.2.2.2 1)), .int (iI (z.2.2.2.2.2.2.2 2)), .int (iI (z.2.2.2.2.2.2.2 3)), .int (iI (z.2.2.2.2.2.2.2 4)), .int (iI (z.2.2.2.2.2.2.2 5)), .int (iI (z.2.2.2.2.2.2.2 6)), .int (iI (z.2.2.2.2.2.2.2 7)), .int (iI (z.2.2.2.2.2.2.2 8)), .int (iI (z.2.2.2.2.2.2.2 9)), .int (iI (z.2.2.2.2.2.2.2 10)), .int (iI (z.2.2.2.2.2.2.2 11)), .int (iI (z.2.2.2.2.2.2.2 12))]))]]) H locs) 0 (Nat.zero_le _) ⟨lv_sub hl [0, 1, 2] rfl, Y.pick [0, 1, 2, 3, 4, 5, 6, 7, 8, 9, 10, 11] (by decide) rfl⟩ (fun H locs ls hP => ?_) (fun i hlt H locs ls hP ih => ?_)
    · obtain ⟨hl, Y⟩ := hP
      refine lv_iload_n B.1 B.2.1 dL_sum_31 rfl (lv_at hl 2 rfl) ?_
      refine lv_bipush (v := (iI (12))) B.1 B.2.1 dL_sum_32 (by decide) ?_
      refine lv_icmp_ge (tgt := 56) B.1 B.2.1 dL_sum_34 (by decide) (fun _ => ?_) (fun h => absurd ((iI_le (a := 12) (b := ((12 : Nat) : Int)) (by omega) (by omega) (by omega) (by omega)).mpr (by omega)) h) 
      refine lv_iconst (v := (iI (0))) B.1 B.2.1 dL_sum_56 (by decide) ?_
      refine lv_istore_n (lv' := [(3, .int (iI (0))), (0, .ref q9), (1, .long (itN (fun k a => h31 a (z.2.2.2.2.2.2.2 k)) (sumA z bk) 12))]) B.1 B.2.1 dL_sum_57 rfl hl (by decide) rfl (fun ls hl => ?_)
      have hl : lv_has ls 5 [(0, .ref q9), (1, .long (itN (smL z) (sumB z bk) 0)), (3, .int (iI ((0 : Nat) : Int)))] := by rw [itN_0]; exact lv_sub hl [1, 2, 0] rfl
      refine loopW (n := nl) (P := fun (i : Nat) (H : Heap) (locs : List Loc) (ls : Array Slot) => lv_has ls 5 [(0, .ref q9), (1, .long (itN (smL z) (sumB z bk) i)), (3, .int (iI ((i : Nat) : Int)))] ∧ Wd D τ s A s.heap (bl [[(q9, .inr (11, [.ref rd, .ref tx, .ref bd, .ref (F 0), .ref pa9, .int (iI (ol)), .int (iI (bk)), va_rf tr, va_rf kp]))], [((F 0), .inr (9, [.int (iI (z.1 0)), .int (iI (z.1 1)), .int (iI (z.1 2)), .int (iI (z.1 3)), .int (iI (z.1 4)), .int (iI (z.1 5)), .int (iI (z.1 6)), .int (iI (z.1 7)), .ref (F 1), .ref (F 2), .ref (F 3), .ref (F 4), .ref (F 5), .ref (F 6)]))], [((F 1), .inl (τ 3, 6, .inr (.inr (.inr (.inr (fun i => some (F (10 + i))))))))], (fam 6 (lkC F z.2.1)), [((F 2), .inl (τ 4, 40, .inr (.inr (.inr (.inr (fun i => some (F (20 + i))))))))], (fam 40 (dgC F z.2.2.1)), [((F 3), .inl (τ 5, 4, .inr (.inr (.inr (.inr (fun i => some (F (60 + i))))))))], (fam 4 (hpC F z.2.2.2.1 y.1)), (fam 4 (hvC τ y.1 y.2.1 y.2.2.1)), (pkB τ (F 4) (fun i => F (70 + i)) y.2.2.2.1.1 y.2.2.2.1.2.1 y.2.2.2.1.2.2.1 y.2.2.2.1.2.2.2), (ntB τ (F 5) y.2.2.2.2.1 y.2.2.2.2.2.1 y.2.2.2.2.2.2.1 y.2.2.2.2.2.2.2.1 y.2.2.2.2.2.2.2.2), [((F 6), .inr (2, [.int (iI (z.2.2.2.2.2.2.2 0)), .int (iI (z.2.2.2.2.2.2.2 1)), .int (iI (z.2.2.2.2.2.2.2 2)), .int (iI (z.2.2.2.2.2.2.2 3)), .int (iI (z.2.2.2.2.2.2.2 4)), .int (iI (z.2.2.2.2.2.2.2 5)), .int (iI (z.2.2.2.2.2.2.2 6)), .int (iI (z.2.2.2.2.2.2.2 7)), .int (iI (z.2.2.2.2.2.2.2 8)), .int (iI (z.2.2.2.2.2.2.2 9)), .int (iI (z.2.2.2.2.2.2.2 10)), .int (iI (z.2.2.2.2.2.2.2 11)), .int (iI (z.2.2.2.2.2.2.2 12))]))]]) H locs) 0 (Nat.zero_le _) ⟨lv_sub hl [0, 1, 2] rfl, Y.pick [0, 1, 2, 3, 4, 5, 6, 7, 8, 9, 10, 11] (by decide) rfl⟩ (fun H locs ls hP => ?_) (fun i hlt H locs ls hP ih => ?_)
      · obtain ⟨hl, Y⟩ := hP
        refine lv_iload_n B.1 B.2.1 dL_sum_58 rfl (lv_at hl 2 rfl) ?_
        refine lv_aload_n B.1 B.2.1 dL_sum_59 rfl (lv_at hl 0 rfl) ?_
        refine lv_iconst (v := (iI (0))) B.1 B.2.1 dL_sum_60 (by decide) ?_
        refine qI (Cs := [[(q9, .inr (11, [.ref rd, .ref tx, .ref bd, .ref (F 0), .ref pa9, .int (iI (ol)), .int (iI (bk)), va_rf tr, va_rf kp]))], [((F 0), .inr (9, [.int (iI (z.1 0)), .int (iI (z.1 1)), .int (iI (z.1 2)), .int (iI (z.1 3)), .int (iI (z.1 4)), .int (iI (z.1 5)), .int (iI (z.1 6)), .int (iI (z.1 7)), .ref (F 1), .ref (F 2), .ref (F 3), .ref (F 4), .ref (F 5), .ref (F 6)]))], (pkB τ (F 4) (fun i => F (70 + i)) y.2.2.2.1.1 y.2.2.2.1.2.1 y.2.2.2.1.2.2.1 y.2.2.2.1.2.2.2), (ntB τ (F 5) y.2.2.2.2.1 y.2.2.2.2.2.1 y.2.2.2.2.2.2.1 y.2.2.2.2.2.2.2.1 y.2.2.2.2.2.2.2.2), [((F 3), .inl (τ 5, 4, .inr (.inr (.inr (.inr (fun i => some (F (60 + i))))))))], (fam 4 (hpC F z.2.2.2.1 y.1)), [((F 2), .inl (τ 4, 40, .inr (.inr (.inr (.inr (fun i => some (F (20 + i))))))))], (fam 40 (dgC F z.2.2.1))]) (Rs := [[((F 1), .inl (τ 3, 6, .inr (.inr (.inr (.inr (fun i => some (F (10 + i))))))))], (fam 6 (lkC F z.2.1)), (fam 4 (hvC τ y.1 y.2.1 y.2.2.1)), [((F 6), .inr (2, [.int (iI (z.2.2.2.2.2.2.2 0)), .int (iI (z.2.2.2.2.2.2.2 1)), .int (iI (z.2.2.2.2.2.2.2 2)), .int (iI (z.2.2.2.2.2.2.2 3)), .int (iI (z.2.2.2.2.2.2.2 4)), .int (iI (z.2.2.2.2.2.2.2 5)), .int (iI (z.2.2.2.2.2.2.2 6)), .int (iI (z.2.2.2.2.2.2.2 7)), .int (iI (z.2.2.2.2.2.2.2 8)), .int (iI (z.2.2.2.2.2.2.2 9)), .int (iI (z.2.2.2.2.2.2.2 10)), .int (iI (z.2.2.2.2.2.2.2 11)), .int (iI (z.2.2.2.2.2.2.2 12))]))]]) Y [0, 1, 9, 10, 6, 7, 4, 5] [2, 3, 8, 11] (by decide) rfl (cV (As := [.int (iI (0))]) (rest := [.int (iI ((nl : Nat) : Int))]) (q0 := 0) B Y [0, 1, 9, 10, 6, 7, 4, 5] (by decide) rfl (k_size l D τ _ q9 rd tx bd pa9 (ol) (bk) tr kp F z.1 z.2.2.2.1 y.1 hI0 y.2.2.2.1.1 y.2.2.2.1.2.1 y.2.2.2.1.2.2.1 y.2.2.2.1.2.2.2 z.2.2.2.2.2.1 hRC.2.1 y.2.2.2.2.1 y.2.2.2.2.2.1 y.2.2.2.2.2.2.1 y.2.2.2.2.2.2.2.1 y.2.2.2.2.2.2.2.2 z.2.2.2.2.2.2.1 hRC.2.2.1 hRC.2.2.2.1 hRC.2.2.2.2 hN0 z.2.2.1 h7 hD5 0 (by omega)) rfl rfl q_484 q_485 q_486 q_2 q_487 rfl rfl hd_X9_size ⟨(Nat.le_of_ble_eq_true rfl), (Nat.le_of_ble_eq_true rfl)⟩ rfl hl.1 rfl (Nat.le_of_ble_eq_true rfl) dL_sum_61 ⟨(Nat.le_of_ble_eq_true rfl), (Nat.le_of_ble_eq_true rfl)⟩) (fun r u H locs hw Y => ?_)
        have hw : r = iI ((nl : Nat) : Int) := hw.trans (congrArg iI hnl)
        subst hw
        have Y : Wd D τ s A s.heap (bl [[(q9, .inr (11, [.ref rd, .ref tx, .ref bd, .ref (F 0), .ref pa9, .int (iI (ol)), .int (iI (bk)), va_rf tr, va_rf kp]))], [((F 0), .inr (9, [.int (iI (z.1 0)), .int (iI (z.1 1)), .int (iI (z.1 2)), .int (iI (z.1 3)), .int (iI (z.1 4)), .int (iI (z.1 5)), .int (iI (z.1 6)), .int (iI (z.1 7)), .ref (F 1), .ref (F 2), .ref (F 3), .ref (F 4), .ref (F 5), .ref (F 6)]))], (pkB τ (F 4) (fun i => F (70 + i)) y.2.2.2.1.1 y.2.2.2.1.2.1 y.2.2.2.1.2.2.1 y.2.2.2.1.2.2.2), (ntB τ (F 5) y.2.2.2.2.1 y.2.2.2.2.2.1 y.2.2.2.2.2.2.1 y.2.2.2.2.2.2.2.1 y.2.2.2.2.2.2.2.2), [((F 3), .inl (τ 5, 4, .inr (.inr (.inr (.inr (fun i => some (F (60 + i))))))))], (fam 4 (hpC F z.2.2.2.1 y.1)), [((F 2), .inl (τ 4, 40, .inr (.inr (.inr (.inr (fun i => some (F (20 + i))))))))], (fam 40 (dgC F z.2.2.1)), [((F 1), .inl (τ 3, 6, .inr (.inr (.inr (.inr (fun i => some (F (10 + i))))))))], (fam 6 (lkC F z.2.1)), (fam 4 (hvC τ y.1 y.2.1 y.2.2.1)), [((F 6), .inr (2, [.int (iI (z.2.2.2.2.2.2.2 0)), .int (iI (z.2.2.2.2.2.2.2 1)), .int (iI (z.2.2.2.2.2.2.2 2)), .int (iI (z.2.2.2.2.2.2.2 3)), .int (iI (z.2.2.2.2.2.2.2 4)), .int (iI (z.2.2.2.2.2.2.2 5)), .int (iI (z.2.2.2.2.2.2.2 6)), .int (iI (z.2.2.2.2.2.2.2 7)), .int (iI (z.2.2.2.2.2.2.2 8)), .int (iI (z.2.2.2.2.2.2.2 9)), .int (iI (z.2.2.2.2.2.2.2 10)), .int (iI (z.2.2.2.2.2.2.2 11)), .int (iI (z.2.2.2.2.2.2.2 12))]))]]) _ _ := Y
        refine lv_icmp_ge (tgt := 104) B.1 B.2.1 dL_sum_64 (by decide) (fun _ => ?_) (fun h => absurd ((iI_le (a := ((nl : Nat) : Int)) (b := ((nl : Nat) : Int)) (by omega) (by omega) (by omega) (by omega)).mpr (by omega)) h) 
        refine lv_iconst (v := (iI (0))) B.1 B.2.1 dL_sum_104 (by decide) ?_
        refine lv_istore_n (lv' := [(3, .int (iI (0))), (0, .ref q9), (1, .long (itN (smL z) (sumB z bk) nl))]) B.1 B.2.1 dL_sum_105 rfl hl (by decide) rfl (fun ls hl => ?_)
        have eC : (itN (smL z) (sumB z bk) nl) = sumC z bk := by unfold sumC; rw [hnl, Int.toNat_natCast]
        rw [eC] at hl
        have hl : lv_has ls 5 [(0, .ref q9), (1, .long (itN (smD z) (sumC z bk) 0)), (3, .int (iI ((0 : Nat) : Int)))] := by rw [itN_0]; exact lv_sub hl [1, 2, 0] rfl
        refine loopW (n := nd) (P := fun (i : Nat) (H : Heap) (locs : List Loc) (ls : Array Slot) => lv_has ls 5 [(0, .ref q9), (1, .long (itN (smD z) (sumC z bk) i)), (3, .int (iI ((i : Nat) : Int)))] ∧ Wd D τ s A s.heap (bl [[(q9, .inr (11, [.ref rd, .ref tx, .ref bd, .ref (F 0), .ref pa9, .int (iI (ol)), .int (iI (bk)), va_rf tr, va_rf kp]))], [((F 0), .inr (9, [.int (iI (z.1 0)), .int (iI (z.1 1)), .int (iI (z.1 2)), .int (iI (z.1 3)), .int (iI (z.1 4)), .int (iI (z.1 5)), .int (iI (z.1 6)), .int (iI (z.1 7)), .ref (F 1), .ref (F 2), .ref (F 3), .ref (F 4), .ref (F 5), .ref (F 6)]))], (pkB τ (F 4) (fun i => F (70 + i)) y.2.2.2.1.1 y.2.2.2.1.2.1 y.2.2.2.1.2.2.1 y.2.2.2.1.2.2.2), (ntB τ (F 5) y.2.2.2.2.1 y.2.2.2.2.2.1 y.2.2.2.2.2.2.1 y.2.2.2.2.2.2.2.1 y.2.2.2.2.2.2.2.2), [((F 3), .inl (τ 5, 4, .inr (.inr (.inr (.inr (fun i => some (F (60 + i))))))))], (fam 4 (hpC F z.2.2.2.1 y.1)), [((F 2), .inl (τ 4, 40, .inr (.inr (.inr (.inr (fun i => some (F (20 + i))))))))], (fam 40 (dgC F z.2.2.1)), [((F 1), .inl (τ 3, 6, .inr (.inr (.inr (.inr (fun i => some (F (10 + i))))))))], (fam 6 (lkC F z.2.1)), (fam 4 (hvC τ y.1 y.2.1 y.2.2.1)), [((F 6), .inr (2, [.int (iI (z.2.2.2.2.2.2.2 0)), .int (iI (z.2.2.2.2.2.2.2 1)), .int (iI (z.2.2.2.2.2.2.2 2)), .int (iI (z.2.2.2.2.2.2.2 3)), .int (iI (z.2.2.2.2.2.2.2 4)), .int (iI (z.2.2.2.2.2.2.2 5)), .int (iI (z.2.2.2.2.2.2.2 6)), .int (iI (z.2.2.2.2.2.2.2 7)), .int (iI (z.2.2.2.2.2.2.2 8)), .int (iI (z.2.2.2.2.2.2.2 9)), .int (iI (z.2.2.2.2.2.2.2 10)), .int (iI (z.2.2.2.2.2.2.2 11)), .int (iI (z.2.2.2.2.2.2.2 12))]))]]) H locs) 0 (Nat.zero_le _) ⟨lv_sub hl [0, 1, 2] rfl, Y.pick [0, 1, 2, 3, 4, 5, 6, 7, 8, 9, 10, 11] (by decide) rfl⟩ (fun H locs ls hP => ?_) (fun i hlt H locs ls hP ih => ?_)
        · obtain ⟨hl, Y⟩ := hP
          refine lv_iload_n B.1 B.2.1 dL_sum_106 rfl (lv_at hl 2 rfl) ?_
          refine lv_aload_n B.1 B.2.1 dL_sum_107 rfl (lv_at hl 0 rfl) ?_
          refine lv_iconst (v := (iI (1))) B.1 B.2.1 dL_sum_108 (by decide) ?_
          refine qI (Cs := [[(q9, .inr (11, [.ref rd, .ref tx, .ref bd, .ref (F 0), .ref pa9, .int (iI (ol)), .int (iI (bk)), va_rf tr, va_rf kp]))], [((F 0), .inr (9, [.int (iI (z.1 0)), .int (iI (z.1 1)), .int (iI (z.1 2)), .int (iI (z.1 3)), .int (iI (z.1 4)), .int (iI (z.1 5)), .int (iI (z.1 6)), .int (iI (z.1 7)), .ref (F 1), .ref (F 2), .ref (F 3), .ref (F 4), .ref (F 5), .ref (F 6)]))], (pkB τ (F 4) (fun i => F (70 + i)) y.2.2.2.1.1 y.2.2.2.1.2.1 y.2.2.2.1.2.2.1 y.2.2.2.1.2.2.2), (ntB τ (F 5) y.2.2.2.2.1 y.2.2.2.2.2.1 y.2.2.2.2.2.2.1 y.2.2.2.2.2.2.2.1 y.2.2.2.2.2.2.2.2), [((F 3), .inl (τ 5, 4, .inr (.inr (.inr (.inr (fun i => some (F (60 + i))))))))], (fam 4 (hpC F z.2.2.2.1 y.1)), [((F 2), .inl (τ 4, 40, .inr (.inr (.inr (.inr (fun i => some (F (20 + i))))))))], (fam 40 (dgC F z.2.2.1))]) (Rs := [[((F 1), .inl (τ 3, 6, .inr (.inr (.inr (.inr (fun i => some (F (10 + i))))))))], (fam 6 (lkC F z.2.1)), (fam 4 (hvC τ y.1 y.2.1 y.2.2.1)), [((F 6), .inr (2, [.int (iI (z.2.2.2.2.2.2.2 0)), .int (iI (z.2.2.2.2.2.2.2 1)), .int (iI (z.2.2.2.2.2.2.2 2)), .int (iI (z.2.2.2.2.2.2.2 3)), .int (iI (z.2.2.2.2.2.2.2 4)), .int (iI (z.2.2.2.2.2.2.2 5)), .int (iI (z.2.2.2.2.2.2.2 6)), .int (iI (z.2.2.2.2.2.2.2 7)), .int (iI (z.2.2.2.2.2.2.2 8)), .int (iI (z.2.2.2.2.2.2.2 9)), .int (iI (z.2.2.2.2.2.2.2 10)), .int (iI (z.2.2.2.2.2.2.2 11)), .int (iI (z.2.2.2.2.2.2.2 12))]))]]) Y [0, 1, 2, 3, 4, 5, 6, 7] [8, 9, 10, 11] (by decide) rfl (cV (As := [.int (iI (1))]) (rest := [.int (iI ((nd : Nat) : Int))]) (q0 := 0) B Y [0, 1, 2, 3, 4, 5, 6, 7] (by decide) rfl (k_size l D τ _ q9 rd tx bd pa9 (ol) (bk) tr kp F z.1 z.2.2.2.1 y.1 hI0 y.2.2.2.1.1 y.2.2.2.1.2.1 y.2.2.2.1.2.2.1 y.2.2.2.1.2.2.2 z.2.2.2.2.2.1 hRC.2.1 y.2.2.2.2.1 y.2.2.2.2.2.1 y.2.2.2.2.2.2.1 y.2.2.2.2.2.2.2.1 y.2.2.2.2.2.2.2.2 z.2.2.2.2.2.2.1 hRC.2.2.1 hRC.2.2.2.1 hRC.2.2.2.2 hN0 z.2.2.1 h7 hD5 1 (by omega)) rfl rfl q_484 q_485 q_486 q_2 q_487 rfl rfl hd_X9_size ⟨(Nat.le_of_ble_eq_true rfl), (Nat.le_of_ble_eq_true rfl)⟩ rfl hl.1 rfl (Nat.le_of_ble_eq_true rfl) dL_sum_109 ⟨(Nat.le_of_ble_eq_true rfl), (Nat.le_of_ble_eq_true rfl)⟩) (fun r u H locs hw Y => ?_)
          have hw : r = iI ((nd : Nat) : Int) := hw.trans (congrArg iI hnd)
          subst hw
          have Y : Wd D τ s A s.heap (bl [[(q9, .inr (11, [.ref rd, .ref tx, .ref bd, .ref (F 0), .ref pa9, .int (iI (ol)), .int (iI (bk)), va_rf tr, va_rf kp]))], [((F 0), .inr (9, [.int (iI (z.1 0)), .int (iI (z.1 1)), .int (iI (z.1 2)), .int (iI (z.1 3)), .int (iI (z.1 4)), .int (iI (z.1 5)), .int (iI (z.1 6)), .int (iI (z.1 7)), .ref (F 1), .ref (F 2), .ref (F 3), .ref (F 4), .ref (F 5), .ref (F 6)]))], (pkB τ (F 4) (fun i => F (70 + i)) y.2.2.2.1.1 y.2.2.2.1.2.1 y.2.2.2.1.2.2.1 y.2.2.2.1.2.2.2), (ntB τ (F 5) y.2.2.2.2.1 y.2.2.2.2.2.1 y.2.2.2.2.2.2.1 y.2.2.2.2.2.2.2.1 y.2.2.2.2.2.2.2.2), [((F 3), .inl (τ 5, 4, .inr (.inr (.inr (.inr (fun i => some (F (60 + i))))))))], (fam 4 (hpC F z.2.2.2.1 y.1)), [((F 2), .inl (τ 4, 40, .inr (.inr (.inr (.inr (fun i => some (F (20 + i))))))))], (fam 40 (dgC F z.2.2.1)), [((F 1), .inl (τ 3, 6, .inr (.inr (.inr (.inr (fun i => some (F (10 + i))))))))], (fam 6 (lkC F z.2.1)), (fam 4 (hvC τ y.1 y.2.1 y.2.2.1)), [((F 6), .inr (2, [.int (iI (z.2.2.2.2.2.2.2 0)), .int (iI (z.2.2.2.2.2.2.2 1)), .int (iI (z.2.2.2.2.2.2.2 2)), .int (iI (z.2.2.2.2.2.2.2 3)), .int (iI (z.2.2.2.2.2.2.2 4)), .int (iI (z.2.2.2.2.2.2.2 5)), .int (iI (z.2.2.2.2.2.2.2 6)), .int (iI (z.2.2.2.2.2.2.2 7)), .int (iI (z.2.2.2.2.2.2.2 8)), .int (iI (z.2.2.2.2.2.2.2 9)), .int (iI (z.2.2.2.2.2.2.2 10)), .int (iI (z.2.2.2.2.2.2.2 11)), .int (iI (z.2.2.2.2.2.2.2 12))]))]]) _ _ := Y
          refine lv_icmp_ge (tgt := 217) B.1 B.2.1 dL_sum_112 (by decide) (fun _ => ?_) (fun h => absurd ((iI_le (a := ((nd : Nat) : Int)) (b := ((nd : Nat) : Int)) (by omega) (by omega) (by omega) (by omega)).mpr (by omega)) h) 
          refine lv_iconst (v := (iI (0))) B.1 B.2.1 dL_sum_217 (by decide) ?_
          refine lv_istore_n (lv' := [(3, .int (iI (0))), (0, .ref q9), (1, .long (itN (smD z) (sumC z bk) nd))]) B.1 B.2.1 dL_sum_218 rfl hl (by decide) rfl (fun ls hl => ?_)
          have eD : (itN (smD z) (sumC z bk) nd) = sumD z bk := by unfold sumD; rw [hnd, Int.toNat_natCast]
          rw [eD] at hl
          have hl : lv_has ls 5 [(0, .ref q9), (1, .long (itN (smP z) (sumD z bk) 0)), (3, .int (iI ((0 : Nat) : Int)))] := by rw [itN_0]; exact lv_sub hl [1, 2, 0] rfl
          obtain ⟨nm, hnm⟩ : ∃ n : Nat, n = min np 9 := ⟨_, rfl⟩
          refine loopW (n := nm) (P := fun (i : Nat) (H : Heap) (locs : List Loc) (ls : Array Slot) => ∃ y1 : CL, (RepC z y1) ∧ (potC y1 = potC y ∧ potS y1 = potS y) ∧ lv_has ls 5 [(0, .ref q9), (1, .long (itN (smP z) (sumD z bk) i)), (3, .int (iI ((i : Nat) : Int)))] ∧ Wd D τ s A s.heap (bl [[(q9, .inr (11, [.ref rd, .ref tx, .ref bd, .ref (F 0), .ref pa9, .int (iI (ol)), .int (iI (bk)), va_rf tr, va_rf kp]))], [((F 0), .inr (9, [.int (iI (z.1 0)), .int (iI (z.1 1)), .int (iI (z.1 2)), .int (iI (z.1 3)), .int (iI (z.1 4)), .int (iI (z.1 5)), .int (iI (z.1 6)), .int (iI (z.1 7)), .ref (F 1), .ref (F 2), .ref (F 3), .ref (F 4), .ref (F 5), .ref (F 6)]))], [((F 1), .inl (τ 3, 6, .inr (.inr (.inr (.inr (fun i => some (F (10 + i))))))))], (fam 6 (lkC F z.2.1)), [((F 2), .inl (τ 4, 40, .inr (.inr (.inr (.inr (fun i => some (F (20 + i))))))))], (fam 40 (dgC F z.2.2.1)), [((F 3), .inl (τ 5, 4, .inr (.inr (.inr (.inr (fun i => some (F (60 + i))))))))], (fam 4 (hpC F z.2.2.2.1 y1.1)), (fam 4 (hvC τ y1.1 y1.2.1 y1.2.2.1)), (pkB τ (F 4) (fun i => F (70 + i)) y1.2.2.2.1.1 y1.2.2.2.1.2.1 y1.2.2.2.1.2.2.1 y1.2.2.2.1.2.2.2), (ntB τ (F 5) y1.2.2.2.2.1 y1.2.2.2.2.2.1 y1.2.2.2.2.2.2.1 y1.2.2.2.2.2.2.2.1 y1.2.2.2.2.2.2.2.2), [((F 6), .inr (2, [.int (iI (z.2.2.2.2.2.2.2 0)), .int (iI (z.2.2.2.2.2.2.2 1)), .int (iI (z.2.2.2.2.2.2.2 2)), .int (iI (z.2.2.2.2.2.2.2 3)), .int (iI (z.2.2.2.2.2.2.2 4)), .int (iI (z.2.2.2.2.2.2.2 5)), .int (iI (z.2.2.2.2.2.2.2 6)), .int (iI (z.2.2.2.2.2.2.2 7)), .int (iI (z.2.2.2.2.2.2.2 8)), .int (iI (z.2.2.2.2.2.2.2 9)), .int (iI (z.2.2.2.2.2.2.2 10)), .int (iI (z.2.2.2.2.2.2.2 11)), .int (iI (z.2.2.2.2.2.2.2 12))]))]]) H locs) 0 (Nat.zero_le _) ⟨y, hRC, ⟨rfl, rfl⟩, lv_sub hl [0, 1, 2] rfl, Y.pick [0, 1, 8, 9, 6, 7, 4, 5, 10, 2, 3, 11] (by decide) rfl⟩ (fun H locs ls hP => ?_) (fun i hlt H locs ls hP ih => ?_)
          · obtain ⟨y1, hR1, hq1, hl, Y⟩ := hP
            refine lv_iload_n B.1 B.2.1 dL_sum_219 rfl (lv_at hl 2 rfl) ?_
            refine lv_aload_n B.1 B.2.1 dL_sum_220 rfl (lv_at hl 0 rfl) ?_
            refine lv_bipush (v := (iI (8))) B.1 B.2.1 dL_sum_221 (by decide) ?_
            refine qI (Cs := [[(q9, .inr (11, [.ref rd, .ref tx, .ref bd, .ref (F 0), .ref pa9, .int (iI (ol)), .int (iI (bk)), va_rf tr, va_rf kp]))], [((F 0), .inr (9, [.int (iI (z.1 0)), .int (iI (z.1 1)), .int (iI (z.1 2)), .int (iI (z.1 3)), .int (iI (z.1 4)), .int (iI (z.1 5)), .int (iI (z.1 6)), .int (iI (z.1 7)), .ref (F 1), .ref (F 2), .ref (F 3), .ref (F 4), .ref (F 5), .ref (F 6)]))], (pkB τ (F 4) (fun i => F (70 + i)) y1.2.2.2.1.1 y1.2.2.2.1.2.1 y1.2.2.2.1.2.2.1 y1.2.2.2.1.2.2.2), (ntB τ (F 5) y1.2.2.2.2.1 y1.2.2.2.2.2.1 y1.2.2.2.2.2.2.1 y1.2.2.2.2.2.2.2.1 y1.2.2.2.2.2.2.2.2), [((F 3), .inl (τ 5, 4, .inr (.inr (.inr (.inr (fun i => some (F (60 + i))))))))], (fam 4 (hpC F z.2.2.2.1 y1.1)), [((F 2), .inl (τ 4, 40, .inr (.inr (.inr (.inr (fun i => some (F (20 + i))))))))], (fam 40 (dgC F z.2.2.1))]) (Rs := [[((F 1), .inl (τ 3, 6, .inr (.inr (.inr (.inr (fun i => some (F (10 + i))))))))], (fam 6 (lkC F z.2.1)), (fam 4 (hvC τ y1.1 y1.2.1 y1.2.2.1)), [((F 6), .inr (2, [.int (iI (z.2.2.2.2.2.2.2 0)), .int (iI (z.2.2.2.2.2.2.2 1)), .int (iI (z.2.2.2.2.2.2.2 2)), .int (iI (z.2.2.2.2.2.2.2 3)), .int (iI (z.2.2.2.2.2.2.2 4)), .int (iI (z.2.2.2.2.2.2.2 5)), .int (iI (z.2.2.2.2.2.2.2 6)), .int (iI (z.2.2.2.2.2.2.2 7)), .int (iI (z.2.2.2.2.2.2.2 8)), .int (iI (z.2.2.2.2.2.2.2 9)), .int (iI (z.2.2.2.2.2.2.2 10)), .int (iI (z.2.2.2.2.2.2.2 11)), .int (iI (z.2.2.2.2.2.2.2 12))]))]]) Y [0, 1, 9, 10, 6, 7, 4, 5] [2, 3, 8, 11] (by decide) rfl (cV (As := [.int (iI (8))]) (rest := [.int (iI ((nm : Nat) : Int))]) (q0 := 0) B Y [0, 1, 9, 10, 6, 7, 4, 5] (by decide) rfl (k_size l D τ _ q9 rd tx bd pa9 (ol) (bk) tr kp F z.1 z.2.2.2.1 y1.1 hI0 y1.2.2.2.1.1 y1.2.2.2.1.2.1 y1.2.2.2.1.2.2.1 y1.2.2.2.1.2.2.2 z.2.2.2.2.2.1 hR1.2.1 y1.2.2.2.2.1 y1.2.2.2.2.2.1 y1.2.2.2.2.2.2.1 y1.2.2.2.2.2.2.2.1 y1.2.2.2.2.2.2.2.2 z.2.2.2.2.2.2.1 hR1.2.2.1 hR1.2.2.2.1 hR1.2.2.2.2 hN0 z.2.2.1 h7 hD5 8 (by omega)) rfl rfl q_484 q_485 q_486 q_2 q_487 rfl rfl hd_X9_size ⟨(Nat.le_of_ble_eq_true rfl), (Nat.le_of_ble_eq_true rfl)⟩ rfl hl.1 rfl (Nat.le_of_ble_eq_true rfl) dL_sum_223 ⟨(Nat.le_of_ble_eq_true rfl), (Nat.le_of_ble_eq_true rfl)⟩) (fun r u H locs hw Y => ?_)
            have hw : r = iI ((np : Nat) : Int) := hw.trans (congrArg iI hnp)
            subst hw
            have Y : Wd D τ s A s.heap (bl [[(q9, .inr (11, [.ref rd, .ref tx, .ref bd, .ref (F 0), .ref pa9, .int (iI (ol)), .int (iI (bk)), va_rf tr, va_rf kp]))], [((F 0), .inr (9, [.int (iI (z.1 0)), .int (iI (z.1 1)), .int (iI (z.1 2)), .int (iI (z.1 3)), .int (iI (z.1 4)), .int (iI (z.1 5)), .int (iI (z.1 6)), .int (iI (z.1 7)), .ref (F 1), .ref (F 2), .ref (F 3), .ref (F 4), .ref (F 5), .ref (F 6)]))], (pkB τ (F 4) (fun i => F (70 + i)) y1.2.2.2.1.1 y1.2.2.2.1.2.1 y1.2.2.2.1.2.2.1 y1.2.2.2.1.2.2.2), (ntB τ (F 5) y1.2.2.2.2.1 y1.2.2.2.2.2.1 y1.2.2.2.2.2.2.1 y1.2.2.2.2.2.2.2.1 y1.2.2.2.2.2.2.2.2), [((F 3), .inl (τ 5, 4, .inr (.inr (.inr (.inr (fun i => some (F (60 + i))))))))], (fam 4 (hpC F z.2.2.2.1 y1.1)), [((F 2), .inl (τ 4, 40, .inr (.inr (.inr (.inr (fun i => some (F (20 + i))))))))], (fam 40 (dgC F z.2.2.1)), [((F 1), .inl (τ 3, 6, .inr (.inr (.inr (.inr (fun i => some (F (10 + i))))))))], (fam 6 (lkC F z.2.1)), (fam 4 (hvC τ y1.1 y1.2.1 y1.2.2.1)), [((F 6), .inr (2, [.int (iI (z.2.2.2.2.2.2.2 0)), .int (iI (z.2.2.2.2.2.2.2 1)), .int (iI (z.2.2.2.2.2.2.2 2)), .int (iI (z.2.2.2.2.2.2.2 3)), .int (iI (z.2.2.2.2.2.2.2 4)), .int (iI (z.2.2.2.2.2.2.2 5)), .int (iI (z.2.2.2.2.2.2.2 6)), .int (iI (z.2.2.2.2.2.2.2 7)), .int (iI (z.2.2.2.2.2.2.2 8)), .int (iI (z.2.2.2.2.2.2.2 9)), .int (iI (z.2.2.2.2.2.2.2 10)), .int (iI (z.2.2.2.2.2.2.2 11)), .int (iI (z.2.2.2.2.2.2.2 12))]))]]) _ _ := Y
            refine lv_icmp_ge (tgt := 272) B.1 B.2.1 dL_sum_226 (by decide) (fun c1 => ?_) (fun c1 => ?_)
            · have c1 := (iI_le (a := ((np : Nat) : Int)) (b := ((nm : Nat) : Int)) (by omega) (by omega) (by omega) (by omega)).mp c1
              refine lv_lload_n B.1 B.2.1 dL_sum_272 rfl (lv_at hl 1 rfl) ?_
              have eE : (itN (smP z) (sumD z bk) nm) = sumF z bk := by unfold sumF; rw [show min (totQ z.2.2.2.2.2.1 6) 9 = nm by omega]
              exact eJ B hr hlk Y y1 ⟨eE, hR1, hq1⟩ [0, 1, 8, 9, 6, 7, 4, 5, 10, 2, 3, 11] (by decide) rfl (Nat.le_of_ble_eq_true rfl) (Nat.le_of_ble_eq_true rfl) dL_sum_273
            · have c1 := mt (iI_le (a := ((np : Nat) : Int)) (b := ((nm : Nat) : Int)) (by omega) (by omega) (by omega) (by omega)).mpr c1
              refine lv_iload_n B.1 B.2.1 dL_sum_229 rfl (lv_at hl 2 rfl) ?_
              refine lv_bipush (v := (iI (9))) B.1 B.2.1 dL_sum_230 (by decide) ?_
              refine lv_icmp_ge (tgt := 272) B.1 B.2.1 dL_sum_232 (by decide) (fun _ => ?_) (fun h => absurd ((iI_le (a := 9) (b := ((nm : Nat) : Int)) (by omega) (by omega) (by omega) (by omega)).mpr (by omega)) h) 
              refine lv_lload_n B.1 B.2.1 dL_sum_272 rfl (lv_at hl 1 rfl) ?_
              have eE : (itN (smP z) (sumD z bk) nm) = sumF z bk := by unfold sumF; rw [show min (totQ z.2.2.2.2.2.1 6) 9 = nm by omega]
              exact eJ B hr hlk Y y1 ⟨eE, hR1, hq1⟩ [0, 1, 8, 9, 6, 7, 4, 5, 10, 2, 3, 11] (by decide) rfl (Nat.le_of_ble_eq_true rfl) (Nat.le_of_ble_eq_true rfl) dL_sum_273
          · obtain ⟨y1, hR1, hq1, hl, Y⟩ := hP
            refine lv_iload_n B.1 B.2.1 dL_sum_219 rfl (lv_at hl 2 rfl) ?_
            refine lv_aload_n B.1 B.2.1 dL_sum_220 rfl (lv_at hl 0 rfl) ?_
            refine lv_bipush (v := (iI (8))) B.1 B.2.1 dL_sum_221 (by decide) ?_
            refine qI (Cs := [[(q9, .inr (11, [.ref rd, .ref tx, .ref bd, .ref (F 0), .ref pa9, .int (iI (ol)), .int (iI (bk)), va_rf tr, va_rf kp]))], [((F 0), .inr (9, [.int (iI (z.1 0)), .int (iI (z.1 1)), .int (iI (z.1 2)), .int (iI (z.1 3)), .int (iI (z.1 4)), .int (iI (z.1 5)), .int (iI (z.1 6)), .int (iI (z.1 7)), .ref (F 1), .ref (F 2), .ref (F 3), .ref (F 4), .ref (F 5), .ref (F 6)]))], (pkB τ (F 4) (fun i => F (70 + i)) y1.2.2.2.1.1 y1.2.2.2.1.2.1 y1.2.2.2.1.2.2.1 y1.2.2.2.1.2.2.2), (ntB τ (F 5) y1.2.2.2.2.1 y1.2.2.2.2.2.1 y1.2.2.2.2.2.2.1 y1.2.2.2.2.2.2.2.1 y1.2.2.2.2.2.2.2.2), [((F 3), .inl (τ 5, 4, .inr (.inr (.inr (.inr (fun i => some (F (60 + i))))))))], (fam 4 (hpC F z.2.2.2.1 y1.1)), [((F 2), .inl (τ 4, 40, .inr (.inr (.inr (.inr (fun i => some (F (20 + i))))))))], (fam 40 (dgC F z.2.2.1))]) (Rs := [[((F 1), .inl (τ 3, 6, .inr (.inr (.inr (.inr (fun i => some (F (10 + i))))))))], (fam 6 (lkC F z.2.1)), (fam 4 (hvC τ y1.1 y1.2.1 y1.2.2.1)), [((F 6), .inr (2, [.int (iI (z.2.2.2.2.2.2.2 0)), .int (iI (z.2.2.2.2.2.2.2 1)), .int (iI (z.2.2.2.2.2.2.2 2)), .int (iI (z.2.2.2.2.2.2.2 3)), .int (iI (z.2.2.2.2.2.2.2 4)), .int (iI (z.2.2.2.2.2.2.2 5)), .int (iI (z.2.2.2.2.2.2.2 6)), .int (iI (z.2.2.2.2.2.2.2 7)), .int (iI (z.2.2.2.2.2.2.2 8)), .int (iI (z.2.2.2.2.2.2.2 9)), .int (iI (z.2.2.2.2.2.2.2 10)), .int (iI (z.2.2.2.2.2.2.2 11)), .int (iI (z.2.2.2.2.2.2.2 12))]))]]) Y [0, 1, 9, 10, 6, 7, 4, 5] [2, 3, 8, 11] (by decide) rfl (cV (As := [.int (iI (8))]) (rest := [.int (iI ((i : Nat) : Int))]) (q0 := 0) B Y [0, 1, 9, 10, 6, 7, 4, 5] (by decide) rfl (k_size l D τ _ q9 rd tx bd pa9 (ol) (bk) tr kp F z.1 z.2.2.2.1 y1.1 hI0 y1.2.2.2.1.1 y1.2.2.2.1.2.1 y1.2.2.2.1.2.2.1 y1.2.2.2.1.2.2.2 z.2.2.2.2.2.1 hR1.2.1 y1.2.2.2.2.1 y1.2.2.2.2.2.1 y1.2.2.2.2.2.2.1 y1.2.2.2.2.2.2.2.1 y1.2.2.2.2.2.2.2.2 z.2.2.2.2.2.2.1 hR1.2.2.1 hR1.2.2.2.1 hR1.2.2.2.2 hN0 z.2.2.1 h7 hD5 8 (by omega)) rfl rfl q_484 q_485 q_486 q_2 q_487 rfl rfl hd_X9_size ⟨(Nat.le_of_ble_eq_true rfl), (Nat.le_of_ble_eq_true rfl)⟩ rfl hl.1 rfl (Nat.le_of_ble_eq_true rfl) dL_sum_223 ⟨(Nat.le_of_ble_eq_true rfl), (Nat.le_of_ble_eq_true rfl)⟩) (fun r u H locs hw Y => ?_)
            have hw : r = iI ((np : Nat) : Int) := hw.trans (congrArg iI hnp)
            subst hw
            have Y : Wd D τ s A s.heap (bl [[(q9, .inr (11, [.ref rd, .ref tx, .ref bd, .ref (F 0), .ref pa9, .int (iI (ol)), .int (iI (bk)), va_rf tr, va_rf kp]))], [((F 0), .inr (9, [.int (iI (z.1 0)), .int (iI (z.1 1)), .int (iI (z.1 2)), .int (iI (z.1 3)), .int (iI (z.1 4)), .int (iI (z.1 5)), .int (iI (z.1 6)), .int (iI (z.1 7)), .ref (F 1), .ref (F 2), .ref (F 3), .ref (F 4), .ref (F 5), .ref (F 6)]))], (pkB τ (F 4) (fun i => F (70 + i)) y1.2.2.2.1.1 y1.2.2.2.1.2.1 y1.2.2.2.1.2.2.1 y1.2.2.2.1.2.2.2), (ntB τ (F 5) y1.2.2.2.2.1 y1.2.2.2.2.2.1 y1.2.2.2.2.2.2.1 y1.2.2.2.2.2.2.2.1 y1.2.2.2.2.2.2.2.2), [((F 3), .inl (τ 5, 4, .inr (.inr (.inr (.inr (fun i => some (F (60 + i))))))))], (fam 4 (hpC F z.2.2.2.1 y1.1)), [((F 2), .inl (τ 4, 40, .inr (.inr (.inr (.inr (fun i => some (F (20 + i))))))))], (fam 40 (dgC F z.2.2.1)), [((F 1), .inl (τ 3, 6, .inr (.inr (.inr (.inr (fun i => some (F (10 + i))))))))], (fam 6 (lkC F z.2.1)), (fam 4 (hvC τ y1.1 y1.2.1 y1.2.2.1)), [((F 6), .inr (2, [.int (iI (z.2.2.2.2.2.2.2 0)), .int (iI (z.2.2.2.2.2.2.2 1)), .int (iI (z.2.2.2.2.2.2.2 2)), .int (iI (z.2.2.2.2.2.2.2 3)), .int (iI (z.2.2.2.2.2.2.2 4)), .int (iI (z.2.2.2.2.2.2.2 5)), .int (iI (z.2.2.2.2.2.2.2 6)), .int (iI (z.2.2.2.2.2.2.2 7)), .int (iI (z.2.2.2.2.2.2.2 8)), .int (iI (z.2.2.2.2.2.2.2 9)), .int (iI (z.2.2.2.2.2.2.2 10)), .int (iI (z.2.2.2.2.2.2.2 11)), .int (iI (z.2.2.2.2.2.2.2 12))]))]]) _ _ := Y
            refine lv_icmp_ge (tgt := 272) B.1 B.2.1 dL_sum_226 (by decide) (fun h => absurd h (mt (iI_le (a := ((np : Nat) : Int)) (b := ((i : Nat) : Int)) (by omega) (by omega) (by omega) (by omega)).mp (by omega))) (fun _ => ?_)
            refine lv_iload_n B.1 B.2.1 dL_sum_229 rfl (lv_at hl 2 rfl) ?_
            refine lv_bipush (v := (iI (9))) B.1 B.2.1 dL_sum_230 (by decide) ?_
            refine lv_icmp_ge (tgt := 272) B.1 B.2.1 dL_sum_232 (by decide) (fun h => absurd h (mt (iI_le (a := 9) (b := ((i : Nat) : Int)) (by omega) (by omega) (by omega) (by omega)).mp (by omega))) (fun _ => ?_)
            refine lv_iconst (v := (iI (0))) B.1 B.2.1 dL_sum_235 (by decide) ?_
            refine lv_istore (lv' := [(4, .int (iI (0))), (0, .ref q9), (1, .long (itN (smP z) (sumD z bk) i)), (3, .int (iI ((i : Nat) : Int)))]) B.1 B.2.1 dL_sum_236 hl (by decide) rfl (fun ls hl => ?_)
            have hl : lv_has ls 5 [(0, .ref q9), (1, .long (itN (fun w a => h31 a (pakV z i w)) (itN (smP z) (sumD z bk) i) 0)), (3, .int (iI ((i : Nat) : Int))), (4, .int (iI ((0 : Nat) : Int)))] := by rw [itN_0]; exact lv_sub hl [1, 2, 3, 0] rfl
            refine loopW (n := 7) (P := fun (j : Nat) (H : Heap) (locs : List Loc) (ls : Array Slot) => ∃ y2 : CL, (RepC z y2) ∧ (potC y2 = potC y ∧ potS y2 = potS y) ∧ lv_has ls 5 [(0, .ref q9), (1, .long (itN (fun w a => h31 a (pakV z i w)) (itN (smP z) (sumD z bk) i) j)), (3, .int (iI ((i : Nat) : Int))), (4, .int (iI ((j : Nat) : Int)))] ∧ Wd D τ s A s.heap (bl [[(q9, .inr (11, [.ref rd, .ref tx, .ref bd, .ref (F 0), .ref pa9, .int (iI (ol)), .int (iI (bk)), va_rf tr, va_rf kp]))], [((F 0), .inr (9, [.int (iI (z.1 0)), .int (iI (z.1 1)), .int (iI (z.1 2)), .int (iI (z.1 3)), .int (iI (z.1 4)), .int (iI (z.1 5)), .int (iI (z.1 6)), .int (iI (z.1 7)), .ref (F 1), .ref (F 2), .ref (F 3), .ref (F 4), .ref (F 5), .ref (F 6)]))], [((F 1), .inl (τ 3, 6, .inr (.inr (.inr (.inr (fun i => some (F (10 + i))))))))], (fam 6 (lkC F z.2.1)), [((F 2), .inl (τ 4, 40, .inr (.inr (.inr (.inr (fun i => some (F (20 + i))))))))], (fam 40 (dgC F z.2.2.1)), [((F 3), .inl (τ 5, 4, .inr (.inr (.inr (.inr (fun i => some (F (60 + i))))))))], (fam 4 (hpC F z.2.2.2.1 y2.1)), (fam 4 (hvC τ y2.1 y2.2.1 y2.2.2.1)), (pkB τ (F 4) (fun i => F (70 + i)) y2.2.2.2.1.1 y2.2.2.2.1.2.1 y2.2.2.2.1.2.2.1 y2.2.2.2.1.2.2.2), (ntB τ (F 5) y2.2.2.2.2.1 y2.2.2.2.2.2.1 y2.2.2.2.2.2.2.1 y2.2.2.2.2.2.2.2.1 y2.2.2.2.2.2.2.2.2), [((F 6), .inr (2, [.int (iI (z.2.2.2.2.2.2.2 0)), .int (iI (z.2.2.2.2.2.2.2 1)), .int (iI (z.2.2.2.2.2.2.2 2)), .int (iI (z.2.2.2.2.2.2.2 3)), .int (iI (z.2.2.2.2.2.2.2 4)), .int (iI (z.2.2.2.2.2.2.2 5)), .int (iI (z.2.2.2.2.2.2.2 6)), .int (iI (z.2.2.2.2.2.2.2 7)), .int (iI (z.2.2.2.2.2.2.2 8)), .int (iI (z.2.2.2.2.2.2.2 9)), .int (iI (z.2.2.2.2.2.2.2 10)), .int (iI (z.2.2.2.2.2.2.2 11)), .int (iI (z.2.2.2.2.2.2.2 12))]))]]) H locs) 0 (Nat.zero_le _) ⟨y1, hR1, hq1, lv_sub hl [0, 1, 2, 3] rfl, Y.pick [0, 1, 8, 9, 6, 7, 4, 5, 10, 2, 3, 11] (by decide) rfl⟩ (fun H locs ls hP => ?_) (fun j hlt_j H locs ls hP ih_j => ?_)
            · obtain ⟨y2, hR2, hq2, hl, Y⟩ := hP
              refine lv_iload B.1 B.2.1 dL_sum_238 (lv_at hl 3 rfl) ?_
              refine lv_bipush (v := (iI (7))) B.1 B.2.1 dL_sum_240 (by decide) ?_
              refine lv_icmp_ge (tgt := 266) B.1 B.2.1 dL_sum_242 (by decide) (fun _ => ?_) (fun h => absurd ((iI_le (a := 7) (b := ((7 : Nat) : Int)) (by omega) (by omega) (by omega) (by omega)).mpr (by omega)) h) 
              refine lv_iinc (v := (iI (((i + 1) : Nat) : Int))) (lv' := [(3, .int (iI (((i + 1) : Nat) : Int))), (0, .ref q9), (1, .long (itN (fun w a => h31 a (pakV z i w)) (itN (smP z) (sumD z bk) i) 7)), (4, .int (iI ((7 : Nat) : Int)))]) B.1 B.2.1 dL_sum_266 hl (k := 2) rfl (iI_inc _) (by decide) rfl (fun ls hl => ?_)
              refine lv_goto (tgt := 219) B.1 B.2.1 dL_sum_269 (by decide) ?_
              exact ih H locs ls ⟨y2, hR2, hq2, (by rw [itN_s]; exact lv_sub hl [1, 2, 0] rfl), Y.pick [0, 1, 2, 3, 4, 5, 6, 7, 8, 9, 10, 11] (by decide) rfl⟩
            · obtain ⟨y2, hR2, hq2, hl, Y⟩ := hP
              refine lv_iload B.1 B.2.1 dL_sum_238 (lv_at hl 3 rfl) ?_
              refine lv_bipush (v := (iI (7))) B.1 B.2.1 dL_sum_240 (by decide) ?_
              refine lv_icmp_ge (tgt := 266) B.1 B.2.1 dL_sum_242 (by decide) (fun h => absurd h (mt (iI_le (a := 7) (b := ((j : Nat) : Int)) (by omega) (by omega) (by omega) (by omega)).mp (by omega))) (fun _ => ?_)
              refine lv_ldc2 (v := 31) B.1 B.2.1 B.2.2.2.1 (B.2.2.2.2 _ q_1097) dL_sum_245 ?_
              refine lv_lload_n B.1 B.2.1 dL_sum_248 rfl (lv_at hl 1 rfl) ?_
              refine lv_lmul B.1 B.2.1 dL_sum_249 ?_
              refine lv_aload_n B.1 B.2.1 dL_sum_250 rfl (lv_at hl 0 rfl) ?_
              refine lv_iload_n B.1 B.2.1 dL_sum_251 rfl (lv_at hl 2 rfl) ?_
              refine lv_iload B.1 B.2.1 dL_sum_252 (lv_at hl 3 rfl) ?_
              refine qI (Cs := [[(q9, .inr (11, [.ref rd, .ref tx, .ref bd, .ref (F 0), .ref pa9, .int (iI (ol)), .int (iI (bk)), va_rf tr, va_rf kp]))], [((F 0), .inr (9, [.int (iI (z.1 0)), .int (iI (z.1 1)), .int (iI (z.1 2)), .int (iI (z.1 3)), .int (iI (z.1 4)), .int (iI (z.1 5)), .int (iI (z.1 6)), .int (iI (z.1 7)), .ref (F 1), .ref (F 2), .ref (F 3), .ref (F 4), .ref (F 5), .ref (F 6)]))], (pkB τ (F 4) (fun i => F (70 + i)) y2.2.2.2.1.1 y2.2.2.2.1.2.1 y2.2.2.2.1.2.2.1 y2.2.2.2.1.2.2.2), [((F 2), .inl (τ 4, 40, .inr (.inr (.inr (.inr (fun i => some (F (20 + i))))))))], (fam 40 (dgC F z.2.2.1))]) (Rs := [[((F 1), .inl (τ 3, 6, .inr (.inr (.inr (.inr (fun i => some (F (10 + i))))))))], (fam 6 (lkC F z.2.1)), [((F 3), .inl (τ 5, 4, .inr (.inr (.inr (.inr (fun i => some (F (60 + i))))))))], (fam 4 (hpC F z.2.2.2.1 y2.1)), (fam 4 (hvC τ y2.1 y2.2.1 y2.2.2.1)), (ntB τ (F 5) y2.2.2.2.2.1 y2.2.2.2.2.2.1 y2.2.2.2.2.2.2.1 y2.2.2.2.2.2.2.2.1 y2.2.2.2.2.2.2.2.2), [((F 6), .inr (2, [.int (iI (z.2.2.2.2.2.2.2 0)), .int (iI (z.2.2.2.2.2.2.2 1)), .int (iI (z.2.2.2.2.2.2.2 2)), .int (iI (z.2.2.2.2.2.2.2 3)), .int (iI (z.2.2.2.2.2.2.2 4)), .int (iI (z.2.2.2.2.2.2.2 5)), .int (iI (z.2.2.2.2.2.2.2 6)), .int (iI (z.2.2.2.2.2.2.2 7)), .int (iI (z.2.2.2.2.2.2.2 8)), .int (iI (z.2.2.2.2.2.2.2 9)), .int (iI (z.2.2.2.2.2.2.2 10)), .int (iI (z.2.2.2.2.2.2.2 11)), .int (iI (z.2.2.2.2.2.2.2 12))]))]]) Y [0, 1, 9, 4, 5] [2, 3, 6, 7, 8, 10, 11] (by decide) rfl (cV (As := [.int (iI ((i : Nat) : Int)), .int (iI ((j : Nat) : Int))]) (rest := [.long (31 * (itN (fun w a => h31 a (pakV z i w)) (itN (smP z) (sumD z bk) i) j))]) (q0 := 0) B Y [0, 1, 9, 4, 5] (by decide) rfl (k_packet l D τ _ q9 rd tx bd pa9 (ol) (bk) tr kp F z.1 y2.2.2.2.1.1 y2.2.2.2.1.2.1 y2.2.2.2.1.2.2.1 y2.2.2.2.1.2.2.2 z.2.2.2.2.2.1 hR2.2.1 z.2.2.1 i j (by omega) (by rw [hR2.2.1.tot]; omega) hOK.2.2.2.2.1 hOK.2.2.1 (by omega) (by omega)) rfl rfl q_1173 q_1174 q_1175 q_2 q_1176 rfl rfl hd_X9_packet ⟨(Nat.le_of_ble_eq_true rfl), (Nat.le_of_ble_eq_true rfl)⟩ rfl hl.1 rfl (Nat.le_of_ble_eq_true rfl) dL_sum_254 ⟨(Nat.le_of_ble_eq_true rfl), (Nat.le_of_ble_eq_true rfl)⟩) (fun r u9 H locs hw Y => ?_)
              obtain ⟨hw, hpk9⟩ := hw
              have hw : r = iI (pakV z i j) := hw
              subst hw
              have hRCn : RepC z ((y2.1, y2.2.1, y2.2.2.1, (u9, y2.2.2.2.1.2), y2.2.2.2.2)) := ⟨hR2.1, hpk9, hR2.2.2⟩
              have Y : Wd D τ s A s.heap (bl [[(q9, .inr (11, [.ref rd, .ref tx, .ref bd, .ref (F 0), .ref pa9, .int (iI (ol)), .int (iI (bk)), va_rf tr, va_rf kp]))], [((F 0), .inr (9, [.int (iI (z.1 0)), .int (iI (z.1 1)), .int (iI (z.1 2)), .int (iI (z.1 3)), .int (iI (z.1 4)), .int (iI (z.1 5)), .int (iI (z.1 6)), .int (iI (z.1 7)), .ref (F 1), .ref (F 2), .ref (F 3), .ref (F 4), .ref (F 5), .ref (F 6)]))], (pkB τ (F 4) (fun i => F (70 + i)) u9 y2.2.2.2.1.2.1 y2.2.2.2.1.2.2.1 y2.2.2.2.1.2.2.2), [((F 2), .inl (τ 4, 40, .inr (.inr (.inr (.inr (fun i => some (F (20 + i))))))))], (fam 40 (dgC F z.2.2.1)), [((F 1), .inl (τ 3, 6, .inr (.inr (.inr (.inr (fun i => some (F (10 + i))))))))], (fam 6 (lkC F z.2.1)), [((F 3), .inl (τ 5, 4, .inr (.inr (.inr (.inr (fun i => some (F (60 + i))))))))], (fam 4 (hpC F z.2.2.2.1 y2.1)), (fam 4 (hvC τ y2.1 y2.2.1 y2.2.2.1)), (ntB τ (F 5) y2.2.2.2.2.1 y2.2.2.2.2.2.1 y2.2.2.2.2.2.2.1 y2.2.2.2.2.2.2.2.1 y2.2.2.2.2.2.2.2.2), [((F 6), .inr (2, [.int (iI (z.2.2.2.2.2.2.2 0)), .int (iI (z.2.2.2.2.2.2.2 1)), .int (iI (z.2.2.2.2.2.2.2 2)), .int (iI (z.2.2.2.2.2.2.2 3)), .int (iI (z.2.2.2.2.2.2.2 4)), .int (iI (z.2.2.2.2.2.2.2 5)), .int (iI (z.2.2.2.2.2.2.2 6)), .int (iI (z.2.2.2.2.2.2.2 7)), .int (iI (z.2.2.2.2.2.2.2 8)), .int (iI (z.2.2.2.2.2.2.2 9)), .int (iI (z.2.2.2.2.2.2.2 10)), .int (iI (z.2.2.2.2.2.2.2 11)), .int (iI (z.2.2.2.2.2.2.2 12))]))]]) _ _ := Y
              refine lv_i2l B.1 B.2.1 dL_sum_257 rfl ?_
              refine lv_ladd B.1 B.2.1 dL_sum_258 ?_
              refine lv_lstore_n (lv' := [(1, .long ((31 * (itN (fun w a => h31 a (pakV z i w)) (itN (smP z) (sumD z bk) i) j)) + (Int32.toInt64 (iI (pakV z i j))))), (0, .ref q9), (3, .int (iI ((i : Nat) : Int))), (4, .int (iI ((j : Nat) : Int)))]) B.1 B.2.1 dL_sum_259 rfl hl (by decide) rfl (fun ls hl => ?_)
              refine lv_iinc (v := (iI (((j + 1) : Nat) : Int))) (lv' := [(4, .int (iI (((j + 1) : Nat) : Int))), (1, .long ((31 * (itN (fun w a => h31 a (pakV z i w)) (itN (smP z) (sumD z bk) i) j)) + (Int32.toInt64 (iI (pakV z i j))))), (0, .ref q9), (3, .int (iI ((i : Nat) : Int)))]) B.1 B.2.1 dL_sum_260 hl (k := 3) rfl (iI_inc _) (by decide) rfl (fun ls hl => ?_)
              refine lv_goto (tgt := 238) B.1 B.2.1 dL_sum_263 (by decide) ?_
              exact ih_j H locs ls ⟨(y2.1, y2.2.1, y2.2.2.1, (u9, y2.2.2.2.1.2), y2.2.2.2.2), hRCn, hq2, (by rw [itN_s]; exact lv_sub hl [2, 1, 3, 0] rfl), Y.pick [0, 1, 5, 6, 3, 4, 7, 8, 9, 2, 10, 11] (by decide) rfl⟩
        · obtain ⟨hl, Y⟩ := hP
          refine lv_iload_n B.1 B.2.1 dL_sum_106 rfl (lv_at hl 2 rfl) ?_
          refine lv_aload_n B.1 B.2.1 dL_sum_107 rfl (lv_at hl 0 rfl) ?_
          refine lv_iconst (v := (iI (1))) B.1 B.2.1 dL_sum_108 (by decide) ?_
          refine qI (Cs := [[(q9, .inr (11, [.ref rd, .ref tx, .ref bd, .ref (F 0), .ref pa9, .int (iI (ol)), .int (iI (bk)), va_rf tr, va_rf kp]))], [((F 0), .inr (9, [.int (iI (z.1 0)), .int (iI (z.1 1)), .int (iI (z.1 2)), .int (iI (z.1 3)), .int (iI (z.1 4)), .int (iI (z.1 5)), .int (iI (z.1 6)), .int (iI (z.1 7)), .ref (F 1), .ref (F 2), .ref (F 3), .ref (F 4), .ref (F 5), .ref (F 6)]))], (pkB τ (F 4) (fun i => F (70 + i)) y.2.2.2.1.1 y.2.2.2.1.2.1 y.2.2.2.1.2.2.1 y.2.2.2.1.2.2.2), (ntB τ (F 5) y.2.2.2.2.1 y.2.2.2.2.2.1 y.2.2.2.2.2.2.1 y.2.2.2.2.2.2.2.1 y.2.2.2.2.2.2.2.2), [((F 3), .inl (τ 5, 4, .inr (.inr (.inr (.inr (fun i => some (F (60 + i))))))))], (fam 4 (hpC F z.2.2.2.1 y.1)), [((F 2), .inl (τ 4, 40, .inr (.inr (.inr (.inr (fun i => some (F (20 + i))))))))], (fam 40 (dgC F z.2.2.1))]) (Rs := [[((F 1), .inl (τ 3, 6, .inr (.inr (.inr (.inr (fun i => some (F (10 + i))))))))], (fam 6 (lkC F z.2.1)), (fam 4 (hvC τ y.1 y.2.1 y.2.2.1)), [((F 6), .inr (2, [.int (iI (z.2.2.2.2.2.2.2 0)), .int (iI (z.2.2.2.2.2.2.2 1)), .int (iI (z.2.2.2.2.2.2.2 2)), .int (iI (z.2.2.2.2.2.2.2 3)), .int (iI (z.2.2.2.2.2.2.2 4)), .int (iI (z.2.2.2.2.2.2.2 5)), .int (iI (z.2.2.2.2.2.2.2 6)), .int (iI (z.2.2.2.2.2.2.2 7)), .int (iI (z.2.2.2.2.2.2.2 8)), .int (iI (z.2.2.2.2.2.2.2 9)), .int (iI (z.2.2.2.2.2.2.2 10)), .int (iI (z.2.2.2.2.2.2.2 11)), .int (iI (z.2.2.2.2.2.2.2 12))]))]]) Y [0, 1, 2, 3, 4, 5, 6, 7] [8, 9, 10, 11] (by decide) rfl (cV (As := [.int (iI (1))]) (rest := [.int (iI ((i : Nat) : Int))]) (q0 := 0) B Y [0, 1, 2, 3, 4, 5, 6, 7] (by decide) rfl (k_size l D τ _ q9 rd tx bd pa9 (ol) (bk) tr kp F z.1 z.2.2.2.1 y.1 hI0 y.2.2.2.1.1 y.2.2.2.1.2.1 y.2.2.2.1.2.2.1 y.2.2.2.1.2.2.2 z.2.2.2.2.2.1 hRC.2.1 y.2.2.2.2.1 y.2.2.2.2.2.1 y.2.2.2.2.2.2.1 y.2.2.2.2.2.2.2.1 y.2.2.2.2.2.2.2.2 z.2.2.2.2.2.2.1 hRC.2.2.1 hRC.2.2.2.1 hRC.2.2.2.2 hN0 z.2.2.1 h7 hD5 1 (by omega)) rfl rfl q_484 q_485 q_486 q_2 q_487 rfl rfl hd_X9_size ⟨(Nat.le_of_ble_eq_true rfl), (Nat.le_of_ble_eq_true rfl)⟩ rfl hl.1 rfl (Nat.le_of_ble_eq_true rfl) dL_sum_109 ⟨(Nat.le_of_ble_eq_true rfl), (Nat.le_of_ble_eq_true rfl)⟩) (fun r u H locs hw Y => ?_)
          have hw : r = iI ((nd : Nat) : Int) := hw.trans (congrArg iI hnd)
          subst hw
          have Y : Wd D τ s A s.heap (bl [[(q9, .inr (11, [.ref rd, .ref tx, .ref bd, .ref (F 0), .ref pa9, .int (iI (ol)), .int (iI (bk)), va_rf tr, va_rf kp]))], [((F 0), .inr (9, [.int (iI (z.1 0)), .int (iI (z.1 1)), .int (iI (z.1 2)), .int (iI (z.1 3)), .int (iI (z.1 4)), .int (iI (z.1 5)), .int (iI (z.1 6)), .int (iI (z.1 7)), .ref (F 1), .ref (F 2), .ref (F 3), .ref (F 4), .ref (F 5), .ref (F 6)]))], (pkB τ (F 4) (fun i => F (70 + i)) y.2.2.2.1.1 y.2.2.2.1.2.1 y.2.2.2.1.2.2.1 y.2.2.2.1.2.2.2), (ntB τ (F 5) y.2.2.2.2.1 y.2.2.2.2.2.1 y.2.2.2.2.2.2.1 y.2.2.2.2.2.2.2.1 y.2.2.2.2.2.2.2.2), [((F 3), .inl (τ 5, 4, .inr (.inr (.inr (.inr (fun i => some (F (60 + i))))))))], (fam 4 (hpC F z.2.2.2.1 y.1)), [((F 2), .inl (τ 4, 40, .inr (.inr (.inr (.inr (fun i => some (F (20 + i))))))))], (fam 40 (dgC F z.2.2.1)), [((F 1), .inl (τ 3, 6, .inr (.inr (.inr (.inr (fun i => some (F (10 + i))))))))], (fam 6 (lkC F z.2.1)), (fam 4 (hvC τ y.1 y.2.1 y.2.2.1)), [((F 6), .inr (2, [.int (iI (z.2.2.2.2.2.2.2 0)), .int (iI (z.2.2.2.2.2.2.2 1)), .int (iI (z.2.2.2.2.2.2.2 2)), .int (iI (z.2.2.2.2.2.2.2 3)), .int (iI (z.2.2.2.2.2.2.2 4)), .int (iI (z.2.2.2.2.2.2.2 5)), .int (iI (z.2.2.2.2.2.2.2 6)), .int (iI (z.2.2.2.2.2.2.2 7)), .int (iI (z.2.2.2.2.2.2.2 8)), .int (iI (z.2.2.2.2.2.2.2 9)), .int (iI (z.2.2.2.2.2.2.2 10)), .int (iI (z.2.2.2.2.2.2.2 11)), .int (iI (z.2.2.2.2.2.2.2 12))]))]]) _ _ := Y
          refine lv_icmp_ge (tgt := 217) B.1 B.2.1 dL_sum_112 (by decide) (fun h => absurd h (mt (iI_le (a := ((nd : Nat) : Int)) (b := ((i : Nat) : Int)) (by omega) (by omega) (by omega) (by omega)).mp (by omega))) (fun _ => ?_)
          refine lv_iconst (v := (iI (0))) B.1 B.2.1 dL_sum_115 (by decide) ?_
          refine lv_istore (lv' := [(4, .int (iI (0))), (0, .ref q9), (1, .long (itN (smD z) (sumC z bk) i)), (3, .int (iI ((i : Nat) : Int)))]) B.1 B.2.1 dL_sum_116 hl (by decide) rfl (fun ls hl => ?_)
          have hl : lv_has ls 5 [(0, .ref q9), (1, .long (itN (fun w a => h31 a (datV z i w)) (itN (smD z) (sumC z bk) i) 0)), (3, .int (iI ((i : Nat) : Int))), (4, .int (iI ((0 : Nat) : Int)))] := by rw [itN_0]; exact lv_sub hl [1, 2, 3, 0] rfl
          refine loopW (n := 9) (P := fun (j : Nat) (H : Heap) (locs : List Loc) (ls : Array Slot) => lv_has ls 5 [(0, .ref q9), (1, .long (itN (fun w a => h31 a (datV z i w)) (itN (smD z) (sumC z bk) i) j)), (3, .int (iI ((i : Nat) : Int))), (4, .int (iI ((j : Nat) : Int)))] ∧ Wd D τ s A s.heap (bl [[(q9, .inr (11, [.ref rd, .ref tx, .ref bd, .ref (F 0), .ref pa9, .int (iI (ol)), .int (iI (bk)), va_rf tr, va_rf kp]))], [((F 0), .inr (9, [.int (iI (z.1 0)), .int (iI (z.1 1)), .int (iI (z.1 2)), .int (iI (z.1 3)), .int (iI (z.1 4)), .int (iI (z.1 5)), .int (iI (z.1 6)), .int (iI (z.1 7)), .ref (F 1), .ref (F 2), .ref (F 3), .ref (F 4), .ref (F 5), .ref (F 6)]))], (pkB τ (F 4) (fun i => F (70 + i)) y.2.2.2.1.1 y.2.2.2.1.2.1 y.2.2.2.1.2.2.1 y.2.2.2.1.2.2.2), (ntB τ (F 5) y.2.2.2.2.1 y.2.2.2.2.2.1 y.2.2.2.2.2.2.1 y.2.2.2.2.2.2.2.1 y.2.2.2.2.2.2.2.2), [((F 3), .inl (τ 5, 4, .inr (.inr (.inr (.inr (fun i => some (F (60 + i))))))))], (fam 4 (hpC F z.2.2.2.1 y.1)), [((F 2), .inl (τ 4, 40, .inr (.inr (.inr (.inr (fun i => some (F (20 + i))))))))], (fam 40 (dgC F z.2.2.1)), [((F 1), .inl (τ 3, 6, .inr (.inr (.inr (.inr (fun i => some (F (10 + i))))))))], (fam 6 (lkC F z.2.1)), (fam 4 (hvC τ y.1 y.2.1 y.2.2.1)), [((F 6), .inr (2, [.int (iI (z.2.2.2.2.2.2.2 0)), .int (iI (z.2.2.2.2.2.2.2 1)), .int (iI (z.2.2.2.2.2.2.2 2)), .int (iI (z.2.2.2.2.2.2.2 3)), .int (iI (z.2.2.2.2.2.2.2 4)), .int (iI (z.2.2.2.2.2.2.2 5)), .int (iI (z.2.2.2.2.2.2.2 6)), .int (iI (z.2.2.2.2.2.2.2 7)), .int (iI (z.2.2.2.2.2.2.2 8)), .int (iI (z.2.2.2.2.2.2.2 9)), .int (iI (z.2.2.2.2.2.2.2 10)), .int (iI (z.2.2.2.2.2.2.2 11)), .int (iI (z.2.2.2.2.2.2.2 12))]))]]) H locs) 0 (Nat.zero_le _) ⟨lv_sub hl [0, 1, 2, 3] rfl, Y.pick [0, 1, 2, 3, 4, 5, 6, 7, 8, 9, 10, 11] (by decide) rfl⟩ (fun H locs ls hP => ?_) (fun j hlt_j H locs ls hP ih_j => ?_)
          · obtain ⟨hl, Y⟩ := hP
            refine lv_iload B.1 B.2.1 dL_sum_118 (lv_at hl 3 rfl) ?_
            refine lv_bipush (v := (iI (9))) B.1 B.2.1 dL_sum_120 (by decide) ?_
            refine lv_icmp_ge (tgt := 146) B.1 B.2.1 dL_sum_122 (by decide) (fun _ => ?_) (fun h => absurd ((iI_le (a := 9) (b := ((9 : Nat) : Int)) (by omega) (by omega) (by omega) (by omega)).mpr (by omega)) h) 
            refine lv_iconst (v := (iI (0))) B.1 B.2.1 dL_sum_146 (by decide) ?_
            refine lv_istore (lv' := [(4, .int (iI (0))), (0, .ref q9), (1, .long (itN (fun w a => h31 a (datV z i w)) (itN (smD z) (sumC z bk) i) 9)), (3, .int (iI ((i : Nat) : Int)))]) B.1 B.2.1 dL_sum_147 hl (by decide) rfl (fun ls hl => ?_)
            have hl : lv_has ls 5 [(0, .ref q9), (1, .long (itN (fun w a => h31 a (hepV z i w)) (smD1 z i (itN (smD z) (sumC z bk) i)) 0)), (3, .int (iI ((i : Nat) : Int))), (4, .int (iI ((0 : Nat) : Int)))] := by rw [itN_0]; exact lv_sub hl [1, 2, 3, 0] rfl
            refine loopW (n := 7) (P := fun (j : Nat) (H : Heap) (locs : List Loc) (ls : Array Slot) => lv_has ls 5 [(0, .ref q9), (1, .long (itN (fun w a => h31 a (hepV z i w)) (smD1 z i (itN (smD z) (sumC z bk) i)) j)), (3, .int (iI ((i : Nat) : Int))), (4, .int (iI ((j : Nat) : Int)))] ∧ Wd D τ s A s.heap (bl [[(q9, .inr (11, [.ref rd, .ref tx, .ref bd, .ref (F 0), .ref pa9, .int (iI (ol)), .int (iI (bk)), va_rf tr, va_rf kp]))], [((F 0), .inr (9, [.int (iI (z.1 0)), .int (iI (z.1 1)), .int (iI (z.1 2)), .int (iI (z.1 3)), .int (iI (z.1 4)), .int (iI (z.1 5)), .int (iI (z.1 6)), .int (iI (z.1 7)), .ref (F 1), .ref (F 2), .ref (F 3), .ref (F 4), .ref (F 5), .ref (F 6)]))], (pkB τ (F 4) (fun i => F (70 + i)) y.2.2.2.1.1 y.2.2.2.1.2.1 y.2.2.2.1.2.2.1 y.2.2.2.1.2.2.2), (ntB τ (F 5) y.2.2.2.2.1 y.2.2.2.2.2.1 y.2.2.2.2.2.2.1 y.2.2.2.2.2.2.2.1 y.2.2.2.2.2.2.2.2), [((F 3), .inl (τ 5, 4, .inr (.inr (.inr (.inr (fun i => some (F (60 + i))))))))], (fam 4 (hpC F z.2.2.2.1 y.1)), [((F 2), .inl (τ 4, 40, .inr (.inr (.inr (.inr (fun i => some (F (20 + i))))))))], (fam 40 (dgC F z.2.2.1)), [((F 1), .inl (τ 3, 6, .inr (.inr (.inr (.inr (fun i => some (F (10 + i))))))))], (fam 6 (lkC F z.2.1)), (fam 4 (hvC τ y.1 y.2.1 y.2.2.1)), [((F 6), .inr (2, [.int (iI (z.2.2.2.2.2.2.2 0)), .int (iI (z.2.2.2.2.2.2.2 1)), .int (iI (z.2.2.2.2.2.2.2 2)), .int (iI (z.2.2.2.2.2.2.2 3)), .int (iI (z.2.2.2.2.2.2.2 4)), .int (iI (z.2.2.2.2.2.2.2 5)), .int (iI (z.2.2.2.2.2.2.2 6)), .int (iI (z.2.2.2.2.2.2.2 7)), .int (iI (z.2.2.2.2.2.2.2 8)), .int (iI (z.2.2.2.2.2.2.2 9)), .int (iI (z.2.2.2.2.2.2.2 10)), .int (iI (z.2.2.2.2.2.2.2 11)), .int (iI (z.2.2.2.2.2.2.2 12))]))]]) H locs) 0 (Nat.zero_le _) ⟨lv_sub hl [0, 1, 2, 3] rfl, Y.pick [0, 1, 2, 3, 4, 5, 6, 7, 8, 9, 10, 11] (by decide) rfl⟩ (fun H locs ls hP => ?_) (fun j hlt_j H locs ls hP ih_j => ?_)
            · obtain ⟨hl, Y⟩ := hP
              refine lv_iload B.1 B.2.1 dL_sum_149 (lv_at hl 3 rfl) ?_
              refine lv_bipush (v := (iI (7))) B.1 B.2.1 dL_sum_151 (by decide) ?_
              refine lv_icmp_ge (tgt := 177) B.1 B.2.1 dL_sum_153 (by decide) (fun _ => ?_) (fun h => absurd ((iI_le (a := 7) (b := ((7 : Nat) : Int)) (by omega) (by omega) (by omega) (by omega)).mpr (by omega)) h) 
              refine lv_iconst (v := (iI (0))) B.1 B.2.1 dL_sum_177 (by decide) ?_
              refine lv_istore (lv' := [(4, .int (iI (0))), (0, .ref q9), (1, .long (itN (fun w a => h31 a (hepV z i w)) (smD1 z i (itN (smD z) (sumC z bk) i)) 7)), (3, .int (iI ((i : Nat) : Int)))]) B.1 B.2.1 dL_sum_178 hl (by decide) rfl (fun ls hl => ?_)
              have hl : lv_has ls 5 [(0, .ref q9), (1, .long (itN (fun k a => h31 a (hbyV z i ((7 * k : Nat) : Int))) (smD2 z i (itN (smD z) (sumC z bk) i)) 0)), (3, .int (iI ((i : Nat) : Int))), (4, .int (iI ((0 : Nat) : Int)))] := by rw [itN_0]; exact lv_sub hl [1, 2, 3, 0] rfl
              refine loopW (n := 40) (P := fun (j : Nat) (H : Heap) (locs : List Loc) (ls : Array Slot) => lv_has ls 5 [(0, .ref q9), (1, .long (itN (fun k a => h31 a (hbyV z i ((7 * k : Nat) : Int))) (smD2 z i (itN (smD z) (sumC z bk) i)) j)), (3, .int (iI ((i : Nat) : Int))), (4, .int (iI ((j : Nat) : Int)))] ∧ Wd D τ s A s.heap (bl [[(q9, .inr (11, [.ref rd, .ref tx, .ref bd, .ref (F 0), .ref pa9, .int (iI (ol)), .int (iI (bk)), va_rf tr, va_rf kp]))], [((F 0), .inr (9, [.int (iI (z.1 0)), .int (iI (z.1 1)), .int (iI (z.1 2)), .int (iI (z.1 3)), .int (iI (z.1 4)), .int (iI (z.1 5)), .int (iI (z.1 6)), .int (iI (z.1 7)), .ref (F 1), .ref (F 2), .ref (F 3), .ref (F 4), .ref (F 5), .ref (F 6)]))], (pkB τ (F 4) (fun i => F (70 + i)) y.2.2.2.1.1 y.2.2.2.1.2.1 y.2.2.2.1.2.2.1 y.2.2.2.1.2.2.2), (ntB τ (F 5) y.2.2.2.2.1 y.2.2.2.2.2.1 y.2.2.2.2.2.2.1 y.2.2.2.2.2.2.2.1 y.2.2.2.2.2.2.2.2), [((F 3), .inl (τ 5, 4, .inr (.inr (.inr (.inr (fun i => some (F (60 + i))))))))], (fam 4 (hpC F z.2.2.2.1 y.1)), [((F 2), .inl (τ 4, 40, .inr (.inr (.inr (.inr (fun i => some (F (20 + i))))))))], (fam 40 (dgC F z.2.2.1)), [((F 1), .inl (τ 3, 6, .inr (.inr (.inr (.inr (fun i => some (F (10 + i))))))))], (fam 6 (lkC F z.2.1)), (fam 4 (hvC τ y.1 y.2.1 y.2.2.1)), [((F 6), .inr (2, [.int (iI (z.2.2.2.2.2.2.2 0)), .int (iI (z.2.2.2.2.2.2.2 1)), .int (iI (z.2.2.2.2.2.2.2 2)), .int (iI (z.2.2.2.2.2.2.2 3)), .int (iI (z.2.2.2.2.2.2.2 4)), .int (iI (z.2.2.2.2.2.2.2 5)), .int (iI (z.2.2.2.2.2.2.2 6)), .int (iI (z.2.2.2.2.2.2.2 7)), .int (iI (z.2.2.2.2.2.2.2 8)), .int (iI (z.2.2.2.2.2.2.2 9)), .int (iI (z.2.2.2.2.2.2.2 10)), .int (iI (z.2.2.2.2.2.2.2 11)), .int (iI (z.2.2.2.2.2.2.2 12))]))]]) H locs) 0 (Nat.zero_le _) ⟨lv_sub hl [0, 1, 2, 3] rfl, Y.pick [0, 1, 2, 3, 4, 5, 6, 7, 8, 9, 10, 11] (by decide) rfl⟩ (fun H locs ls hP => ?_) (fun j hlt_j H locs ls hP ih_j => ?_)
              · obtain ⟨hl, Y⟩ := hP
                refine lv_iload B.1 B.2.1 dL_sum_180 (lv_at hl 3 rfl) ?_
                refine lv_bipush (v := (iI (40))) B.1 B.2.1 dL_sum_182 (by decide) ?_
                refine lv_icmp_ge (tgt := 211) B.1 B.2.1 dL_sum_184 (by decide) (fun _ => ?_) (fun h => absurd ((iI_le (a := 40) (b := ((40 : Nat) : Int)) (by omega) (by omega) (by omega) (by omega)).mpr (by omega)) h) 
                refine lv_iinc (v := (iI (((i + 1) : Nat) : Int))) (lv' := [(3, .int (iI (((i + 1) : Nat) : Int))), (0, .ref q9), (1, .long (itN (fun k a => h31 a (hbyV z i ((7 * k : Nat) : Int))) (smD2 z i (itN (smD z) (sumC z bk) i)) 40)), (4, .int (iI ((40 : Nat) : Int)))]) B.1 B.2.1 dL_sum_211 hl (k := 2) rfl (iI_inc _) (by decide) rfl (fun ls hl => ?_)
                refine lv_goto (tgt := 106) B.1 B.2.1 dL_sum_214 (by decide) ?_
                exact ih H locs ls ⟨(by rw [itN_s]; exact lv_sub hl [1, 2, 0] rfl), Y.pick [0, 1, 2, 3, 4, 5, 6, 7, 8, 9, 10, 11] (by decide) rfl⟩
              · obtain ⟨hl, Y⟩ := hP
                refine lv_iload B.1 B.2.1 dL_sum_180 (lv_at hl 3 rfl) ?_
                refine lv_bipush (v := (iI (40))) B.1 B.2.1 dL_sum_182 (by decide) ?_
                refine lv_icmp_ge (tgt := 211) B.1 B.2.1 dL_sum_184 (by decide) (fun h => absurd h (mt (iI_le (a := 40) (b := ((j : Nat) : Int)) (by omega) (by omega) (by omega) (by omega)).mp (by omega))) (fun _ => ?_)
                refine lv_ldc2 (v := 31) B.1 B.2.1 B.2.2.2.1 (B.2.2.2.2 _ q_1097) dL_sum_187 ?_
                refine lv_lload_n B.1 B.2.1 dL_sum_190 rfl (lv_at hl 1 rfl) ?_
                refine lv_lmul B.1 B.2.1 dL_sum_191 ?_
                refine lv_aload_n B.1 B.2.1 dL_sum_192 rfl (lv_at hl 0 rfl) ?_
                refine lv_iload_n B.1 B.2.1 dL_sum_193 rfl (lv_at hl 2 rfl) ?_
                refine lv_bipush (v := (iI (7))) B.1 B.2.1 dL_sum_194 (by decide) ?_
                refine lv_iload B.1 B.2.1 dL_sum_196 (lv_at hl 3 rfl) ?_
                refine lv_imul B.1 B.2.1 dL_sum_198 ?_
                refine lv_cv (v := (iI (((7 * j) : Nat) : Int))) (iI_mul _ _) ?_
                refine qI (Cs := [[(q9, .inr (11, [.ref rd, .ref tx, .ref bd, .ref (F 0), .ref pa9, .int (iI (ol)), .int (iI (bk)), va_rf tr, va_rf kp]))], [((F 0), .inr (9, [.int (iI (z.1 0)), .int (iI (z.1 1)), .int (iI (z.1 2)), .int (iI (z.1 3)), .int (iI (z.1 4)), .int (iI (z.1 5)), .int (iI (z.1 6)), .int (iI (z.1 7)), .ref (F 1), .ref (F 2), .ref (F 3), .ref (F 4), .ref (F 5), .ref (F 6)]))], [((F 2), .inl (τ 4, 40, .inr (.inr (.inr (.inr (fun i => some (F (20 + i))))))))], [((F 3), .inl (τ 5, 4, .inr (.inr (.inr (.inr (fun i => some (F (60 + i))))))))], (fam 4 (hpC F z.2.2.2.1 y.1)), (fam 4 (hvC τ y.1 y.2.1 y.2.2.1))]) (Rs := [(pkB τ (F 4) (fun i => F (70 + i)) y.2.2.2.1.1 y.2.2.2.1.2.1 y.2.2.2.1.2.2.1 y.2.2.2.1.2.2.2), (ntB τ (F 5) y.2.2.2.2.1 y.2.2.2.2.2.1 y.2.2.2.2.2.2.1 y.2.2.2.2.2.2.2.1 y.2.2.2.2.2.2.2.2), (fam 40 (dgC F z.2.2.1)), [((F 1), .inl (τ 3, 6, .inr (.inr (.inr (.inr (fun i => some (F (10 + i))))))))], (fam 6 (lkC F z.2.1)), [((F 6), .inr (2, [.int (iI (z.2.2.2.2.2.2.2 0)), .int (iI (z.2.2.2.2.2.2.2 1)), .int (iI (z.2.2.2.2.2.2.2 2)), .int (iI (z.2.2.2.2.2.2.2 3)), .int (iI (z.2.2.2.2.2.2.2 4)), .int (iI (z.2.2.2.2.2.2.2 5)), .int (iI (z.2.2.2.2.2.2.2 6)), .int (iI (z.2.2.2.2.2.2.2 7)), .int (iI (z.2.2.2.2.2.2.2 8)), .int (iI (z.2.2.2.2.2.2.2 9)), .int (iI (z.2.2.2.2.2.2.2 10)), .int (iI (z.2.2.2.2.2.2.2 11)), .int (iI (z.2.2.2.2.2.2.2 12))]))]]) Y [0, 1, 6, 4, 5, 10] [2, 3, 7, 8, 9, 11] (by decide) rfl (cV (As := [.int (iI ((i : Nat) : Int)), .int (iI (((7 * j) : Nat) : Int))]) (rest := [.long (31 * (itN (fun k a => h31 a (hbyV z i ((7 * k : Nat) : Int))) (smD2 z i (itN (smD z) (sumC z bk) i)) j))]) (q0 := 0) B Y [0, 1, 6, 4, 5, 10] (by decide) rfl (k_heapByte l D τ _ q9 rd tx bd pa9 (ol) (bk) tr kp F z.1 z.2.2.2.1 z.2.2.2.2.1 y.1 y.2.1 y.2.2.1 hI0 hRC.1 i (by omega) (by omega) ((((7 * j) : Nat) : Int)) (by omega) (by omega)) rfl rfl q_1168 q_1169 q_1170 q_2 q_1171 rfl rfl hd_X9_heapByte ⟨(Nat.le_of_ble_eq_true rfl), (Nat.le_of_ble_eq_true rfl)⟩ rfl hl.1 rfl (Nat.le_of_ble_eq_true rfl) dL_sum_199 ⟨(Nat.le_of_ble_eq_true rfl), (Nat.le_of_ble_eq_true rfl)⟩) (fun r u H locs hw Y => ?_)
                have hw : r = iI (hbyV z i ((((7 * j) : Nat) : Int))) := hw
                subst hw
                have Y : Wd D τ s A s.heap (bl [[(q9, .inr (11, [.ref rd, .ref tx, .ref bd, .ref (F 0), .ref pa9, .int (iI (ol)), .int (iI (bk)), va_rf tr, va_rf kp]))], [((F 0), .inr (9, [.int (iI (z.1 0)), .int (iI (z.1 1)), .int (iI (z.1 2)), .int (iI (z.1 3)), .int (iI (z.1 4)), .int (iI (z.1 5)), .int (iI (z.1 6)), .int (iI (z.1 7)), .ref (F 1), .ref (F 2), .ref (F 3), .ref (F 4), .ref (F 5), .ref (F 6)]))], [((F 2), .inl (τ 4, 40, .inr (.inr (.inr (.inr (fun i => some (F (20 + i))))))))], [((F 3), .inl (τ 5, 4, .inr (.inr (.inr (.inr (fun i => some (F (60 + i))))))))], (fam 4 (hpC F z.2.2.2.1 y.1)), (fam 4 (hvC τ y.1 y.2.1 y.2.2.1)), (pkB τ (F 4) (fun i => F (70 + i)) y.2.2.2.1.1 y.2.2.2.1.2.1 y.2.2.2.1.2.2.1 y.2.2.2.1.2.2.2), (ntB τ (F 5) y.2.2.2.2.1 y.2.2.2.2.2.1 y.2.2.2.2.2.2.1 y.2.2.2.2.2.2.2.1 y.2.2.2.2.2.2.2.2), (fam 40 (dgC F z.2.2.1)), [((F 1), .inl (τ 3, 6, .inr (.inr (.inr (.inr (fun i => some (F (10 + i))))))))], (fam 6 (lkC F z.2.1)), [((F 6), .inr (2, [.int (iI (z.2.2.2.2.2.2.2 0)), .int (iI (z.2.2.2.2.2.2.2 1)), .int (iI (z.2.2.2.2.2.2.2 2)), .int (iI (z.2.2.2.2.2.2.2 3)), .int (iI (z.2.2.2.2.2.2.2 4)), .int (iI (z.2.2.2.2.2.2.2 5)), .int (iI (z.2.2.2.2.2.2.2 6)), .int (iI (z.2.2.2.2.2.2.2 7)), .int (iI (z.2.2.2.2.2.2.2 8)), .int (iI (z.2.2.2.2.2.2.2 9)), .int (iI (z.2.2.2.2.2.2.2 10)), .int (iI (z.2.2.2.2.2.2.2 11)), .int (iI (z.2.2.2.2.2.2.2 12))]))]]) _ _ := Y
                refine lv_i2l B.1 B.2.1 dL_sum_202 rfl ?_
                refine lv_ladd B.1 B.2.1 dL_sum_203 ?_
                refine lv_lstore_n (lv' := [(1, .long ((31 * (itN (fun k a => h31 a (hbyV z i ((7 * k : Nat) : Int))) (smD2 z i (itN (smD z) (sumC z bk) i)) j)) + (Int32.toInt64 (iI (hbyV z i ((((7 * j) : Nat) : Int))))))), (0, .ref q9), (3, .int (iI ((i : Nat) : Int))), (4, .int (iI ((j : Nat) : Int)))]) B.1 B.2.1 dL_sum_204 rfl hl (by decide) rfl (fun ls hl => ?_)
                refine lv_iinc (v := (iI (((j + 1) : Nat) : Int))) (lv' := [(4, .int (iI (((j + 1) : Nat) : Int))), (1, .long ((31 * (itN (fun k a => h31 a (hbyV z i ((7 * k : Nat) : Int))) (smD2 z i (itN (smD z) (sumC z bk) i)) j)) + (Int32.toInt64 (iI (hbyV z i ((((7 * j) : Nat) : Int))))))), (0, .ref q9), (3, .int (iI ((i : Nat) : Int)))]) B.1 B.2.1 dL_sum_205 hl (k := 3) rfl (iI_inc _) (by decide) rfl (fun ls hl => ?_)
                refine lv_goto (tgt := 180) B.1 B.2.1 dL_sum_208 (by decide) ?_
                exact ih_j H locs ls ⟨(by rw [itN_s]; exact lv_sub hl [2, 1, 3, 0] rfl), Y.pick [0, 1, 6, 7, 3, 4, 2, 8, 9, 10, 5, 11] (by decide) rfl⟩
            · obtain ⟨hl, Y⟩ := hP
              refine lv_iload B.1 B.2.1 dL_sum_149 (lv_at hl 3 rfl) ?_
              refine lv_bipush (v := (iI (7))) B.1 B.2.1 dL_sum_151 (by decide) ?_
              refine lv_icmp_ge (tgt := 177) B.1 B.2.1 dL_sum_153 (by decide) (fun h => absurd h (mt (iI_le (a := 7) (b := ((j : Nat) : Int)) (by omega) (by omega) (by omega) (by omega)).mp (by omega))) (fun _ => ?_)
              refine lv_ldc2 (v := 31) B.1 B.2.1 B.2.2.2.1 (B.2.2.2.2 _ q_1097) dL_sum_156 ?_
              refine lv_lload_n B.1 B.2.1 dL_sum_159 rfl (lv_at hl 1 rfl) ?_
              refine lv_lmul B.1 B.2.1 dL_sum_160 ?_
              refine lv_aload_n B.1 B.2.1 dL_sum_161 rfl (lv_at hl 0 rfl) ?_
              refine lv_iload_n B.1 B.2.1 dL_sum_162 rfl (lv_at hl 2 rfl) ?_
              refine lv_iload B.1 B.2.1 dL_sum_163 (lv_at hl 3 rfl) ?_
              refine qI (Cs := [[(q9, .inr (11, [.ref rd, .ref tx, .ref bd, .ref (F 0), .ref pa9, .int (iI (ol)), .int (iI (bk)), va_rf tr, va_rf kp]))], [((F 0), .inr (9, [.int (iI (z.1 0)), .int (iI (z.1 1)), .int (iI (z.1 2)), .int (iI (z.1 3)), .int (iI (z.1 4)), .int (iI (z.1 5)), .int (iI (z.1 6)), .int (iI (z.1 7)), .ref (F 1), .ref (F 2), .ref (F 3), .ref (F 4), .ref (F 5), .ref (F 6)]))], [((F 2), .inl (τ 4, 40, .inr (.inr (.inr (.inr (fun i => some (F (20 + i))))))))], [((F 3), .inl (τ 5, 4, .inr (.inr (.inr (.inr (fun i => some (F (60 + i))))))))], (fam 4 (hpC F z.2.2.2.1 y.1)), (fam 4 (hvC τ y.1 y.2.1 y.2.2.1))]) (Rs := [(pkB τ (F 4) (fun i => F (70 + i)) y.2.2.2.1.1 y.2.2.2.1.2.1 y.2.2.2.1.2.2.1 y.2.2.2.1.2.2.2), (ntB τ (F 5) y.2.2.2.2.1 y.2.2.2.2.2.1 y.2.2.2.2.2.2.1 y.2.2.2.2.2.2.2.1 y.2.2.2.2.2.2.2.2), (fam 40 (dgC F z.2.2.1)), [((F 1), .inl (τ 3, 6, .inr (.inr (.inr (.inr (fun i => some (F (10 + i))))))))], (fam 6 (lkC F z.2.1)), [((F 6), .inr (2, [.int (iI (z.2.2.2.2.2.2.2 0)), .int (iI (z.2.2.2.2.2.2.2 1)), .int (iI (z.2.2.2.2.2.2.2 2)), .int (iI (z.2.2.2.2.2.2.2 3)), .int (iI (z.2.2.2.2.2.2.2 4)), .int (iI (z.2.2.2.2.2.2.2 5)), .int (iI (z.2.2.2.2.2.2.2 6)), .int (iI (z.2.2.2.2.2.2.2 7)), .int (iI (z.2.2.2.2.2.2.2 8)), .int (iI (z.2.2.2.2.2.2.2 9)), .int (iI (z.2.2.2.2.2.2.2 10)), .int (iI (z.2.2.2.2.2.2.2 11)), .int (iI (z.2.2.2.2.2.2.2 12))]))]]) Y [0, 1, 6, 4, 5, 10] [2, 3, 7, 8, 9, 11] (by decide) rfl (cV (As := [.int (iI ((i : Nat) : Int)), .int (iI ((j : Nat) : Int))]) (rest := [.long (31 * (itN (fun w a => h31 a (hepV z i w)) (smD1 z i (itN (smD z) (sumC z bk) i)) j))]) (q0 := 0) B Y [0, 1, 6, 4, 5, 10] (by decide) rfl (k_heap l D τ _ q9 rd tx bd pa9 (ol) (bk) tr kp F z.1 z.2.2.2.1 z.2.2.2.2.1 y.1 y.2.1 y.2.2.1 hI0 hRC.1 i (by omega) (by omega) j (by omega)) rfl rfl q_1147 q_1148 q_1149 q_2 q_1150 rfl rfl hd_X9_heap ⟨(Nat.le_of_ble_eq_true rfl), (Nat.le_of_ble_eq_true rfl)⟩ rfl hl.1 rfl (Nat.le_of_ble_eq_true rfl) dL_sum_165 ⟨(Nat.le_of_ble_eq_true rfl), (Nat.le_of_ble_eq_true rfl)⟩) (fun r u H locs hw Y => ?_)
              have hw : r = iI (hepV z i j) := hw
              subst hw
              have Y : Wd D τ s A s.heap (bl [[(q9, .inr (11, [.ref rd, .ref tx, .ref bd, .ref (F 0), .ref pa9, .int (iI (ol)), .int (iI (bk)), va_rf tr, va_rf kp]))], [((F 0), .inr (9, [.int (iI (z.1 0)), .int (iI (z.1 1)), .int (iI (z.1 2)), .int (iI (z.1 3)), .int (iI (z.1 4)), .int (iI (z.1 5)), .int (iI (z.1 6)), .int (iI (z.1 7)), .ref (F 1), .ref (F 2), .ref (F 3), .ref (F 4), .ref (F 5), .ref (F 6)]))], [((F 2), .inl (τ 4, 40, .inr (.inr (.inr (.inr (fun i => some (F (20 + i))))))))], [((F 3), .inl (τ 5, 4, .inr (.inr (.inr (.inr (fun i => some (F (60 + i))))))))], (fam 4 (hpC F z.2.2.2.1 y.1)), (fam 4 (hvC τ y.1 y.2.1 y.2.2.1)), (pkB τ (F 4) (fun i => F (70 + i)) y.2.2.2.1.1 y.2.2.2.1.2.1 y.2.2.2.1.2.2.1 y.2.2.2.1.2.2.2), (ntB τ (F 5) y.2.2.2.2.1 y.2.2.2.2.2.1 y.2.2.2.2.2.2.1 y.2.2.2.2.2.2.2.1 y.2.2.2.2.2.2.2.2), (fam 40 (dgC F z.2.2.1)), [((F 1), .inl (τ 3, 6, .inr (.inr (.inr (.inr (fun i => some (F (10 + i))))))))], (fam 6 (lkC F z.2.1)), [((F 6), .inr (2, [.int (iI (z.2.2.2.2.2.2.2 0)), .int (iI (z.2.2.2.2.2.2.2 1)), .int (iI (z.2.2.2.2.2.2.2 2)), .int (iI (z.2.2.2.2.2.2.2 3)), .int (iI (z.2.2.2.2.2.2.2 4)), .int (iI (z.2.2.2.2.2.2.2 5)), .int (iI (z.2.2.2.2.2.2.2 6)), .int (iI (z.2.2.2.2.2.2.2 7)), .int (iI (z.2.2.2.2.2.2.2 8)), .int (iI (z.2.2.2.2.2.2.2 9)), .int (iI (z.2.2.2.2.2.2.2 10)), .int (iI (z.2.2.2.2.2.2.2 11)), .int (iI (z.2.2.2.2.2.2.2 12))]))]]) _ _ := Y
              refine lv_i2l B.1 B.2.1 dL_sum_168 rfl ?_
              refine lv_ladd B.1 B.2.1 dL_sum_169 ?_
              refine lv_lstore_n (lv' := [(1, .long ((31 * (itN (fun w a => h31 a (hepV z i w)) (smD1 z i (itN (smD z) (sumC z bk) i)) j)) + (Int32.toInt64 (iI (hepV z i j))))), (0, .ref q9), (3, .int (iI ((i : Nat) : Int))), (4, .int (iI ((j : Nat) : Int)))]) B.1 B.2.1 dL_sum_170 rfl hl (by decide) rfl (fun ls hl => ?_)
              refine lv_iinc (v := (iI (((j + 1) : Nat) : Int))) (lv' := [(4, .int (iI (((j + 1) : Nat) : Int))), (1, .long ((31 * (itN (fun w a => h31 a (hepV z i w)) (smD1 z i (itN (smD z) (sumC z bk) i)) j)) + (Int32.toInt64 (iI (hepV z i j))))), (0, .ref q9), (3, .int (iI ((i : Nat) : Int)))]) B.1 B.2.1 dL_sum_171 hl (k := 3) rfl (iI_inc _) (by decide) rfl (fun ls hl => ?_)
              refine lv_goto (tgt := 149) B.1 B.2.1 dL_sum_174 (by decide) ?_
              exact ih_j H locs ls ⟨(by rw [itN_s]; exact lv_sub hl [2, 1, 3, 0] rfl), Y.pick [0, 1, 6, 7, 3, 4, 2, 8, 9, 10, 5, 11] (by decide) rfl⟩
          · obtain ⟨hl, Y⟩ := hP
            refine lv_iload B.1 B.2.1 dL_sum_118 (lv_at hl 3 rfl) ?_
            refine lv_bipush (v := (iI (9))) B.1 B.2.1 dL_sum_120 (by decide) ?_
            refine lv_icmp_ge (tgt := 146) B.1 B.2.1 dL_sum_122 (by decide) (fun h => absurd h (mt (iI_le (a := 9) (b := ((j : Nat) : Int)) (by omega) (by omega) (by omega) (by omega)).mp (by omega))) (fun _ => ?_)
            refine lv_ldc2 (v := 31) B.1 B.2.1 B.2.2.2.1 (B.2.2.2.2 _ q_1097) dL_sum_125 ?_
            refine lv_lload_n B.1 B.2.1 dL_sum_128 rfl (lv_at hl 1 rfl) ?_
            refine lv_lmul B.1 B.2.1 dL_sum_129 ?_
            refine lv_aload_n B.1 B.2.1 dL_sum_130 rfl (lv_at hl 0 rfl) ?_
            refine lv_iload_n B.1 B.2.1 dL_sum_131 rfl (lv_at hl 2 rfl) ?_
            refine lv_iload B.1 B.2.1 dL_sum_132 (lv_at hl 3 rfl) ?_
            refine qI (Cs := [[(q9, .inr (11, [.ref rd, .ref tx, .ref bd, .ref (F 0), .ref pa9, .int (iI (ol)), .int (iI (bk)), va_rf tr, va_rf kp]))], [((F 0), .inr (9, [.int (iI (z.1 0)), .int (iI (z.1 1)), .int (iI (z.1 2)), .int (iI (z.1 3)), .int (iI (z.1 4)), .int (iI (z.1 5)), .int (iI (z.1 6)), .int (iI (z.1 7)), .ref (F 1), .ref (F 2), .ref (F 3), .ref (F 4), .ref (F 5), .ref (F 6)]))], [((F 2), .inl (τ 4, 40, .inr (.inr (.inr (.inr (fun i => some (F (20 + i))))))))], (fam 40 (dgC F z.2.2.1)), (pkB τ (F 4) (fun i => F (70 + i)) y.2.2.2.1.1 y.2.2.2.1.2.1 y.2.2.2.1.2.2.1 y.2.2.2.1.2.2.2)]) (Rs := [(ntB τ (F 5) y.2.2.2.2.1 y.2.2.2.2.2.1 y.2.2.2.2.2.2.1 y.2.2.2.2.2.2.2.1 y.2.2.2.2.2.2.2.2), [((F 3), .inl (τ 5, 4, .inr (.inr (.inr (.inr (fun i => some (F (60 + i))))))))], (fam 4 (hpC F z.2.2.2.1 y.1)), [((F 1), .inl (τ 3, 6, .inr (.inr (.inr (.inr (fun i => some (F (10 + i))))))))], (fam 6 (lkC F z.2.1)), (fam 4 (hvC τ y.1 y.2.1 y.2.2.1)), [((F 6), .inr (2, [.int (iI (z.2.2.2.2.2.2.2 0)), .int (iI (z.2.2.2.2.2.2.2 1)), .int (iI (z.2.2.2.2.2.2.2 2)), .int (iI (z.2.2.2.2.2.2.2 3)), .int (iI (z.2.2.2.2.2.2.2 4)), .int (iI (z.2.2.2.2.2.2.2 5)), .int (iI (z.2.2.2.2.2.2.2 6)), .int (iI (z.2.2.2.2.2.2.2 7)), .int (iI (z.2.2.2.2.2.2.2 8)), .int (iI (z.2.2.2.2.2.2.2 9)), .int (iI (z.2.2.2.2.2.2.2 10)), .int (iI (z.2.2.2.2.2.2.2 11)), .int (iI (z.2.2.2.2.2.2.2 12))]))]]) Y [0, 1, 6, 7, 2] [3, 4, 5, 8, 9, 10, 11] (by decide) rfl (cV (As := [.int (iI ((i : Nat) : Int)), .int (iI ((j : Nat) : Int))]) (rest := [.long (31 * (itN (fun w a => h31 a (datV z i w)) (itN (smD z) (sumC z bk) i) j))]) (q0 := 0) B Y [0, 1, 6, 7, 2] (by decide) rfl (k_datagram l D τ _ q9 rd tx bd pa9 (ol) (bk) tr kp F z.1 z.2.2.1 y.2.2.2.1.1 y.2.2.2.1.2.1 y.2.2.2.1.2.2.1 y.2.2.2.1.2.2.2 z.2.2.2.2.2.1 hRC.2.1 i j (by omega) (by omega) (by omega) (hOK.2.2.1 i (by omega)).2.2.1 hWz) rfl rfl q_1134 q_1135 q_1136 q_2 q_1137 rfl rfl hd_X9_datagram ⟨(Nat.le_of_ble_eq_true rfl), (Nat.le_of_ble_eq_true rfl)⟩ rfl hl.1 rfl (Nat.le_of_ble_eq_true rfl) dL_sum_134 ⟨(Nat.le_of_ble_eq_true rfl), (Nat.le_of_ble_eq_true rfl)⟩) (fun r u H locs hw Y => ?_)
            have hw : r = iI (datV z i j) := hw
            subst hw
            have Y : Wd D τ s A s.heap (bl [[(q9, .inr (11, [.ref rd, .ref tx, .ref bd, .ref (F 0), .ref pa9, .int (iI (ol)), .int (iI (bk)), va_rf tr, va_rf kp]))], [((F 0), .inr (9, [.int (iI (z.1 0)), .int (iI (z.1 1)), .int (iI (z.1 2)), .int (iI (z.1 3)), .int (iI (z.1 4)), .int (iI (z.1 5)), .int (iI (z.1 6)), .int (iI (z.1 7)), .ref (F 1), .ref (F 2), .ref (F 3), .ref (F 4), .ref (F 5), .ref (F 6)]))], [((F 2), .inl (τ 4, 40, .inr (.inr (.inr (.inr (fun i => some (F (20 + i))))))))], (fam 40 (dgC F z.2.2.1)), (pkB τ (F 4) (fun i => F (70 + i)) y.2.2.2.1.1 y.2.2.2.1.2.1 y.2.2.2.1.2.2.1 y.2.2.2.1.2.2.2), (ntB τ (F 5) y.2.2.2.2.1 y.2.2.2.2.2.1 y.2.2.2.2.2.2.1 y.2.2.2.2.2.2.2.1 y.2.2.2.2.2.2.2.2), [((F 3), .inl (τ 5, 4, .inr (.inr (.inr (.inr (fun i => some (F (60 + i))))))))], (fam 4 (hpC F z.2.2.2.1 y.1)), [((F 1), .inl (τ 3, 6, .inr (.inr (.inr (.inr (fun i => some (F (10 + i))))))))], (fam 6 (lkC F z.2.1)), (fam 4 (hvC τ y.1 y.2.1 y.2.2.1)), [((F 6), .inr (2, [.int (iI (z.2.2.2.2.2.2.2 0)), .int (iI (z.2.2.2.2.2.2.2 1)), .int (iI (z.2.2.2.2.2.2.2 2)), .int (iI (z.2.2.2.2.2.2.2 3)), .int (iI (z.2.2.2.2.2.2.2 4)), .int (iI (z.2.2.2.2.2.2.2 5)), .int (iI (z.2.2.2.2.2.2.2 6)), .int (iI (z.2.2.2.2.2.2.2 7)), .int (iI (z.2.2.2.2.2.2.2 8)), .int (iI (z.2.2.2.2.2.2.2 9)), .int (iI (z.2.2.2.2.2.2.2 10)), .int (iI (z.2.2.2.2.2.2.2 11)), .int (iI (z.2.2.2.2.2.2.2 12))]))]]) _ _ := Y
            refine lv_i2l B.1 B.2.1 dL_sum_137 rfl ?_
            refine lv_ladd B.1 B.2.1 dL_sum_138 ?_
            refine lv_lstore_n (lv' := [(1, .long ((31 * (itN (fun w a => h31 a (datV z i w)) (itN (smD z) (sumC z bk) i) j)) + (Int32.toInt64 (iI (datV z i j))))), (0, .ref q9), (3, .int (iI ((i : Nat) : Int))), (4, .int (iI ((j : Nat) : Int)))]) B.1 B.2.1 dL_sum_139 rfl hl (by decide) rfl (fun ls hl => ?_)
            refine lv_iinc (v := (iI (((j + 1) : Nat) : Int))) (lv' := [(4, .int (iI (((j + 1) : Nat) : Int))), (1, .long ((31 * (itN (fun w a => h31 a (datV z i w)) (itN (smD z) (sumC z bk) i) j)) + (Int32.toInt64 (iI (datV z i j))))), (0, .ref q9), (3, .int (iI ((i : Nat) : Int)))]) B.1 B.2.1 dL_sum_140 hl (k := 3) rfl (iI_inc _) (by decide) rfl (fun ls hl => ?_)
            refine lv_goto (tgt := 118) B.1 B.2.1 dL_sum_143 (by decide) ?_
            exact ih_j H locs ls ⟨(by rw [itN_s]; exact lv_sub hl [2, 1, 3, 0] rfl), Y.pick [0, 1, 4, 5, 6, 7, 2, 3, 8, 9, 10, 11] (by decide) rfl⟩
      · obtain ⟨hl, Y⟩ := hP
        refine lv_iload_n B.1 B.2.1 dL_sum_58 rfl (lv_at hl 2 rfl) ?_
        refine lv_aload_n B.1 B.2.1 dL_sum_59 rfl (lv_at hl 0 rfl) ?_
        refine lv_iconst (v := (iI (0))) B.1 B.2.1 dL_sum_60 (by decide) ?_
        refine qI (Cs := [[(q9, .inr (11, [.ref rd, .ref tx, .ref bd, .ref (F 0), .ref pa9, .int (iI (ol)), .int (iI (bk)), va_rf tr, va_rf kp]))], [((F 0), .inr (9, [.int (iI (z.1 0)), .int (iI (z.1 1)), .int (iI (z.1 2)), .int (iI (z.1 3)), .int (iI (z.1 4)), .int (iI (z.1 5)), .int (iI (z.1 6)), .int (iI (z.1 7)), .ref (F 1), .ref (F 2), .ref (F 3), .ref (F 4), .ref (F 5), .ref (F 6)]))], (pkB τ (F 4) (fun i => F (70 + i)) y.2.2.2.1.1 y.2.2.2.1.2.1 y.2.2.2.1.2.2.1 y.2.2.2.1.2.2.2), (ntB τ (F 5) y.2.2.2.2.1 y.2.2.2.2.2.1 y.2.2.2.2.2.2.1 y.2.2.2.2.2.2.2.1 y.2.2.2.2.2.2.2.2), [((F 3), .inl (τ 5, 4, .inr (.inr (.inr (.inr (fun i => some (F (60 + i))))))))], (fam 4 (hpC F z.2.2.2.1 y.1)), [((F 2), .inl (τ 4, 40, .inr (.inr (.inr (.inr (fun i => some (F (20 + i))))))))], (fam 40 (dgC F z.2.2.1))]) (Rs := [[((F 1), .inl (τ 3, 6, .inr (.inr (.inr (.inr (fun i => some (F (10 + i))))))))], (fam 6 (lkC F z.2.1)), (fam 4 (hvC τ y.1 y.2.1 y.2.2.1)), [((F 6), .inr (2, [.int (iI (z.2.2.2.2.2.2.2 0)), .int (iI (z.2.2.2.2.2.2.2 1)), .int (iI (z.2.2.2.2.2.2.2 2)), .int (iI (z.2.2.2.2.2.2.2 3)), .int (iI (z.2.2.2.2.2.2.2 4)), .int (iI (z.2.2.2.2.2.2.2 5)), .int (iI (z.2.2.2.2.2.2.2 6)), .int (iI (z.2.2.2.2.2.2.2 7)), .int (iI (z.2.2.2.2.2.2.2 8)), .int (iI (z.2.2.2.2.2.2.2 9)), .int (iI (z.2.2.2.2.2.2.2 10)), .int (iI (z.2.2.2.2.2.2.2 11)), .int (iI (z.2.2.2.2.2.2.2 12))]))]]) Y [0, 1, 9, 10, 6, 7, 4, 5] [2, 3, 8, 11] (by decide) rfl (cV (As := [.int (iI (0))]) (rest := [.int (iI ((i : Nat) : Int))]) (q0 := 0) B Y [0, 1, 9, 10, 6, 7, 4, 5] (by decide) rfl (k_size l D τ _ q9 rd tx bd pa9 (ol) (bk) tr kp F z.1 z.2.2.2.1 y.1 hI0 y.2.2.2.1.1 y.2.2.2.1.2.1 y.2.2.2.1.2.2.1 y.2.2.2.1.2.2.2 z.2.2.2.2.2.1 hRC.2.1 y.2.2.2.2.1 y.2.2.2.2.2.1 y.2.2.2.2.2.2.1 y.2.2.2.2.2.2.2.1 y.2.2.2.2.2.2.2.2 z.2.2.2.2.2.2.1 hRC.2.2.1 hRC.2.2.2.1 hRC.2.2.2.2 hN0 z.2.2.1 h7 hD5 0 (by omega)) rfl rfl q_484 q_485 q_486 q_2 q_487 rfl rfl hd_X9_size ⟨(Nat.le_of_ble_eq_true rfl), (Nat.le_of_ble_eq_true rfl)⟩ rfl hl.1 rfl (Nat.le_of_ble_eq_true rfl) dL_sum_61 ⟨(Nat.le_of_ble_eq_true rfl), (Nat.le_of_ble_eq_true rfl)⟩) (fun r u H locs hw Y => ?_)
        have hw : r = iI ((nl : Nat) : Int) := hw.trans (congrArg iI hnl)
        subst hw
        have Y : Wd D τ s A s.heap (bl [[(q9, .inr (11, [.ref rd, .ref tx, .ref bd, .ref (F 0), .ref pa9, .int (iI (ol)), .int (iI (bk)), va_rf tr, va_rf kp]))], [((F 0), .inr (9, [.int (iI (z.1 0)), .int (iI (z.1 1)), .int (iI (z.1 2)), .int (iI (z.1 3)), .int (iI (z.1 4)), .int (iI (z.1 5)), .int (iI (z.1 6)), .int (iI (z.1 7)), .ref (F 1), .ref (F 2), .ref (F 3), .ref (F 4), .ref (F 5), .ref (F 6)]))], (pkB τ (F 4) (fun i => F (70 + i)) y.2.2.2.1.1 y.2.2.2.1.2.1 y.2.2.2.1.2.2.1 y.2.2.2.1.2.2.2), (ntB τ (F 5) y.2.2.2.2.1 y.2.2.2.2.2.1 y.2.2.2.2.2.2.1 y.2.2.2.2.2.2.2.1 y.2.2.2.2.2.2.2.2), [((F 3), .inl (τ 5, 4, .inr (.inr (.inr (.inr (fun i => some (F (60 + i))))))))], (fam 4 (hpC F z.2.2.2.1 y.1)), [((F 2), .inl (τ 4, 40, .inr (.inr (.inr (.inr (fun i => some (F (20 + i))))))))], (fam 40 (dgC F z.2.2.1)), [((F 1), .inl (τ 3, 6, .inr (.inr (.inr (.inr (fun i => some (F (10 + i))))))))], (fam 6 (lkC F z.2.1)), (fam 4 (hvC τ y.1 y.2.1 y.2.2.1)), [((F 6), .inr (2, [.int (iI (z.2.2.2.2.2.2.2 0)), .int (iI (z.2.2.2.2.2.2.2 1)), .int (iI (z.2.2.2.2.2.2.2 2)), .int (iI (z.2.2.2.2.2.2.2 3)), .int (iI (z.2.2.2.2.2.2.2 4)), .int (iI (z.2.2.2.2.2.2.2 5)), .int (iI (z.2.2.2.2.2.2.2 6)), .int (iI (z.2.2.2.2.2.2.2 7)), .int (iI (z.2.2.2.2.2.2.2 8)), .int (iI (z.2.2.2.2.2.2.2 9)), .int (iI (z.2.2.2.2.2.2.2 10)), .int (iI (z.2.2.2.2.2.2.2 11)), .int (iI (z.2.2.2.2.2.2.2 12))]))]]) _ _ := Y
        refine lv_icmp_ge (tgt := 104) B.1 B.2.1 dL_sum_64 (by decide) (fun h => absurd h (mt (iI_le (a := ((nl : Nat) : Int)) (b := ((i : Nat) : Int)) (by omega) (by omega) (by omega) (by omega)).mp (by omega))) (fun _ => ?_)
        refine lv_iconst (v := (iI (0))) B.1 B.2.1 dL_sum_67 (by decide) ?_
        refine lv_istore (lv' := [(4, .int (iI (0))), (0, .ref q9), (1, .long (itN (smL z) (sumB z bk) i)), (3, .int (iI ((i : Nat) : Int)))]) B.1 B.2.1 dL_sum_68 hl (by decide) rfl (fun ls hl => ?_)
        have hl : lv_has ls 5 [(0, .ref q9), (1, .long (itN (fun w a => h31 a (lnkV z i w)) (itN (smL z) (sumB z bk) i) 0)), (3, .int (iI ((i : Nat) : Int))), (4, .int (iI ((0 : Nat) : Int)))] := by rw [itN_0]; exact lv_sub hl [1, 2, 3, 0] rfl
        refine loopW (n := 9) (P := fun (j : Nat) (H : Heap) (locs : List Loc) (ls : Array Slot) => lv_has ls 5 [(0, .ref q9), (1, .long (itN (fun w a => h31 a (lnkV z i w)) (itN (smL z) (sumB z bk) i) j)), (3, .int (iI ((i : Nat) : Int))), (4, .int (iI ((j : Nat) : Int)))] ∧ Wd D τ s A s.heap (bl [[(q9, .inr (11, [.ref rd, .ref tx, .ref bd, .ref (F 0), .ref pa9, .int (iI (ol)), .int (iI (bk)), va_rf tr, va_rf kp]))], [((F 0), .inr (9, [.int (iI (z.1 0)), .int (iI (z.1 1)), .int (iI (z.1 2)), .int (iI (z.1 3)), .int (iI (z.1 4)), .int (iI (z.1 5)), .int (iI (z.1 6)), .int (iI (z.1 7)), .ref (F 1), .ref (F 2), .ref (F 3), .ref (F 4), .ref (F 5), .ref (F 6)]))], (pkB τ (F 4) (fun i => F (70 + i)) y.2.2.2.1.1 y.2.2.2.1.2.1 y.2.2.2.1.2.2.1 y.2.2.2.1.2.2.2), (ntB τ (F 5) y.2.2.2.2.1 y.2.2.2.2.2.1 y.2.2.2.2.2.2.1 y.2.2.2.2.2.2.2.1 y.2.2.2.2.2.2.2.2), [((F 3), .inl (τ 5, 4, .inr (.inr (.inr (.inr (fun i => some (F (60 + i))))))))], (fam 4 (hpC F z.2.2.2.1 y.1)), [((F 2), .inl (τ 4, 40, .inr (.inr (.inr (.inr (fun i => some (F (20 + i))))))))], (fam 40 (dgC F z.2.2.1)), [((F 1), .inl (τ 3, 6, .inr (.inr (.inr (.inr (fun i => some (F (10 + i))))))))], (fam 6 (lkC F z.2.1)), (fam 4 (hvC τ y.1 y.2.1 y.2.2.1)), [((F 6), .inr (2, [.int (iI (z.2.2.2.2.2.2.2 0)), .int (iI (z.2.2.2.2.2.2.2 1)), .int (iI (z.2.2.2.2.2.2.2 2)), .int (iI (z.2.2.2.2.2.2.2 3)), .int (iI (z.2.2.2.2.2.2.2 4)), .int (iI (z.2.2.2.2.2.2.2 5)), .int (iI (z.2.2.2.2.2.2.2 6)), .int (iI (z.2.2.2.2.2.2.2 7)), .int (iI (z.2.2.2.2.2.2.2 8)), .int (iI (z.2.2.2.2.2.2.2 9)), .int (iI (z.2.2.2.2.2.2.2 10)), .int (iI (z.2.2.2.2.2.2.2 11)), .int (iI (z.2.2.2.2.2.2.2 12))]))]]) H locs) 0 (Nat.zero_le _) ⟨lv_sub hl [0, 1, 2, 3] rfl, Y.pick [0, 1, 2, 3, 4, 5, 6, 7, 8, 9, 10, 11] (by decide) rfl⟩ (fun H locs ls hP => ?_) (fun j hlt_j H locs ls hP ih_j => ?_)
        · obtain ⟨hl, Y⟩ := hP
          refine lv_iload B.1 B.2.1 dL_sum_70 (lv_at hl 3 rfl) ?_
          refine lv_bipush (v := (iI (9))) B.1 B.2.1 dL_sum_72 (by decide) ?_
          refine lv_icmp_ge (tgt := 98) B.1 B.2.1 dL_sum_74 (by decide) (fun _ => ?_) (fun h => absurd ((iI_le (a := 9) (b := ((9 : Nat) : Int)) (by omega) (by omega) (by omega) (by omega)).mpr (by omega)) h) 
          refine lv_iinc (v := (iI (((i + 1) : Nat) : Int))) (lv' := [(3, .int (iI (((i + 1) : Nat) : Int))), (0, .ref q9), (1, .long (itN (fun w a => h31 a (lnkV z i w)) (itN (smL z) (sumB z bk) i) 9)), (4, .int (iI ((9 : Nat) : Int)))]) B.1 B.2.1 dL_sum_98 hl (k := 2) rfl (iI_inc _) (by decide) rfl (fun ls hl => ?_)
          refine lv_goto (tgt := 58) B.1 B.2.1 dL_sum_101 (by decide) ?_
          exact ih H locs ls ⟨(by rw [itN_s]; exact lv_sub hl [1, 2, 0] rfl), Y.pick [0, 1, 8, 9, 6, 7, 4, 5, 10, 2, 3, 11] (by decide) rfl⟩
        · obtain ⟨hl, Y⟩ := hP
          refine lv_iload B.1 B.2.1 dL_sum_70 (lv_at hl 3 rfl) ?_
          refine lv_bipush (v := (iI (9))) B.1 B.2.1 dL_sum_72 (by decide) ?_
          refine lv_icmp_ge (tgt := 98) B.1 B.2.1 dL_sum_74 (by decide) (fun h => absurd h (mt (iI_le (a := 9) (b := ((j : Nat) : Int)) (by omega) (by omega) (by omega) (by omega)).mp (by omega))) (fun _ => ?_)
          refine lv_ldc2 (v := 31) B.1 B.2.1 B.2.2.2.1 (B.2.2.2.2 _ q_1097) dL_sum_77 ?_
          refine lv_lload_n B.1 B.2.1 dL_sum_80 rfl (lv_at hl 1 rfl) ?_
          refine lv_lmul B.1 B.2.1 dL_sum_81 ?_
          refine lv_aload_n B.1 B.2.1 dL_sum_82 rfl (lv_at hl 0 rfl) ?_
          refine lv_iload_n B.1 B.2.1 dL_sum_83 rfl (lv_at hl 2 rfl) ?_
          refine lv_iload B.1 B.2.1 dL_sum_84 (lv_at hl 3 rfl) ?_
          refine qI (Cs := [[(q9, .inr (11, [.ref rd, .ref tx, .ref bd, .ref (F 0), .ref pa9, .int (iI (ol)), .int (iI (bk)), va_rf tr, va_rf kp]))], [((F 0), .inr (9, [.int (iI (z.1 0)), .int (iI (z.1 1)), .int (iI (z.1 2)), .int (iI (z.1 3)), .int (iI (z.1 4)), .int (iI (z.1 5)), .int (iI (z.1 6)), .int (iI (z.1 7)), .ref (F 1), .ref (F 2), .ref (F 3), .ref (F 4), .ref (F 5), .ref (F 6)]))], [((F 1), .inl (τ 3, 6, .inr (.inr (.inr (.inr (fun i => some (F (10 + i))))))))], (fam 6 (lkC F z.2.1)), (pkB τ (F 4) (fun i => F (70 + i)) y.2.2.2.1.1 y.2.2.2.1.2.1 y.2.2.2.1.2.2.1 y.2.2.2.1.2.2.2)]) (Rs := [(ntB τ (F 5) y.2.2.2.2.1 y.2.2.2.2.2.1 y.2.2.2.2.2.2.1 y.2.2.2.2.2.2.2.1 y.2.2.2.2.2.2.2.2), [((F 3), .inl (τ 5, 4, .inr (.inr (.inr (.inr (fun i => some (F (60 + i))))))))], (fam 4 (hpC F z.2.2.2.1 y.1)), [((F 2), .inl (τ 4, 40, .inr (.inr (.inr (.inr (fun i => some (F (20 + i))))))))], (fam 40 (dgC F z.2.2.1)), (fam 4 (hvC τ y.1 y.2.1 y.2.2.1)), [((F 6), .inr (2, [.int (iI (z.2.2.2.2.2.2.2 0)), .int (iI (z.2.2.2.2.2.2.2 1)), .int (iI (z.2.2.2.2.2.2.2 2)), .int (iI (z.2.2.2.2.2.2.2 3)), .int (iI (z.2.2.2.2.2.2.2 4)), .int (iI (z.2.2.2.2.2.2.2 5)), .int (iI (z.2.2.2.2.2.2.2 6)), .int (iI (z.2.2.2.2.2.2.2 7)), .int (iI (z.2.2.2.2.2.2.2 8)), .int (iI (z.2.2.2.2.2.2.2 9)), .int (iI (z.2.2.2.2.2.2.2 10)), .int (iI (z.2.2.2.2.2.2.2 11)), .int (iI (z.2.2.2.2.2.2.2 12))]))]]) Y [0, 1, 8, 9, 2] [3, 4, 5, 6, 7, 10, 11] (by decide) rfl (cV (As := [.int (iI ((i : Nat) : Int)), .int (iI ((j : Nat) : Int))]) (rest := [.long (31 * (itN (fun w a => h31 a (lnkV z i w)) (itN (smL z) (sumB z bk) i) j))]) (q0 := 0) B Y [0, 1, 8, 9, 2] (by decide) rfl (k_link l D τ _ q9 rd tx bd pa9 (ol) (bk) tr kp F z.1 z.2.1 y.2.2.2.1.1 y.2.2.2.1.2.1 y.2.2.2.1.2.2.1 y.2.2.2.1.2.2.2 z.2.2.2.2.2.1 hRC.2.1 i j (by omega) (by omega) (by omega)) rfl rfl q_1106 q_1107 q_1108 q_2 q_1109 rfl rfl hd_X9_link ⟨(Nat.le_of_ble_eq_true rfl), (Nat.le_of_ble_eq_true rfl)⟩ rfl hl.1 rfl (Nat.le_of_ble_eq_true rfl) dL_sum_86 ⟨(Nat.le_of_ble_eq_true rfl), (Nat.le_of_ble_eq_true rfl)⟩) (fun r u H locs hw Y => ?_)
          have hw : r = iI (lnkV z i j) := hw
          subst hw
          have Y : Wd D τ s A s.heap (bl [[(q9, .inr (11, [.ref rd, .ref tx, .ref bd, .ref (F 0), .ref pa9, .int (iI (ol)), .int (iI (bk)), va_rf tr, va_rf kp]))], [((F 0), .inr (9, [.int (iI (z.1 0)), .int (iI (z.1 1)), .int (iI (z.1 2)), .int (iI (z.1 3)), .int (iI (z.1 4)), .int (iI (z.1 5)), .int (iI (z.1 6)), .int (iI (z.1 7)), .ref (F 1), .ref (F 2), .ref (F 3), .ref (F 4), .ref (F 5), .ref (F 6)]))], [((F 1), .inl (τ 3, 6, .inr (.inr (.inr (.inr (fun i => some (F (10 + i))))))))], (fam 6 (lkC F z.2.1)), (pkB τ (F 4) (fun i => F (70 + i)) y.2.2.2.1.1 y.2.2.2.1.2.1 y.2.2.2.1.2.2.1 y.2.2.2.1.2.2.2), (ntB τ (F 5) y.2.2.2.2.1 y.2.2.2.2.2.1 y.2.2.2.2.2.2.1 y.2.2.2.2.2.2.2.1 y.2.2.2.2.2.2.2.2), [((F 3), .inl (τ 5, 4, .inr (.inr (.inr (.inr (fun i => some (F (60 + i))))))))], (fam 4 (hpC F z.2.2.2.1 y.1)), [((F 2), .inl (τ 4, 40, .inr (.inr (.inr (.inr (fun i => some (F (20 + i))))))))], (fam 40 (dgC F z.2.2.1)), (fam 4 (hvC τ y.1 y.2.1 y.2.2.1)), [((F 6), .inr (2, [.int (iI (z.2.2.2.2.2.2.2 0)), .int (iI (z.2.2.2.2.2.2.2 1)), .int (iI (z.2.2.2.2.2.2.2 2)), .int (iI (z.2.2.2.2.2.2.2 3)), .int (iI (z.2.2.2.2.2.2.2 4)), .int (iI (z.2.2.2.2.2.2.2 5)), .int (iI (z.2.2.2.2.2.2.2 6)), .int (iI (z.2.2.2.2.2.2.2 7)), .int (iI (z.2.2.2.2.2.2.2 8)), .int (iI (z.2.2.2.2.2.2.2 9)), .int (iI (z.2.2.2.2.2.2.2 10)), .int (iI (z.2.2.2.2.2.2.2 11)), .int (iI (z.2.2.2.2.2.2.2 12))]))]]) _ _ := Y
          refine lv_i2l B.1 B.2.1 dL_sum_89 rfl ?_
          refine lv_ladd B.1 B.2.1 dL_sum_90 ?_
          refine lv_lstore_n (lv' := [(1, .long ((31 * (itN (fun w a => h31 a (lnkV z i w)) (itN (smL z) (sumB z bk) i) j)) + (Int32.toInt64 (iI (lnkV z i j))))), (0, .ref q9), (3, .int (iI ((i : Nat) : Int))), (4, .int (iI ((j : Nat) : Int)))]) B.1 B.2.1 dL_sum_91 rfl hl (by decide) rfl (fun ls hl => ?_)
          refine lv_iinc (v := (iI (((j + 1) : Nat) : Int))) (lv' := [(4, .int (iI (((j + 1) : Nat) : Int))), (1, .long ((31 * (itN (fun w a => h31 a (lnkV z i w)) (itN (smL z) (sumB z bk) i) j)) + (Int32.toInt64 (iI (lnkV z i j))))), (0, .ref q9), (3, .int (iI ((i : Nat) : Int)))]) B.1 B.2.1 dL_sum_92 hl (k := 3) rfl (iI_inc _) (by decide) rfl (fun ls hl => ?_)
          refine lv_goto (tgt := 70) B.1 B.2.1 dL_sum_95 (by decide) ?_
          exact ih_j H locs ls ⟨(by rw [itN_s]; exact lv_sub hl [2, 1, 3, 0] rfl), Y.pick [0, 1, 4, 5, 6, 7, 8, 9, 2, 3, 10, 11] (by decide) rfl⟩
    · obtain ⟨hl, Y⟩ := hP
      refine lv_iload_n B.1 B.2.1 dL_sum_31 rfl (lv_at hl 2 rfl) ?_
      refine lv_bipush (v := (iI (12))) B.1 B.2.1 dL_sum_32 (by decide) ?_
      refine lv_icmp_ge (tgt := 56) B.1 B.2.1 dL_sum_34 (by decide) (fun h => absurd h (mt (iI_le (a := 12) (b := ((i : Nat) : Int)) (by omega) (by omega) (by omega) (by omega)).mp (by omega))) (fun _ => ?_)
      refine lv_ldc2 (v := 31) B.1 B.2.1 B.2.2.2.1 (B.2.2.2.2 _ q_1097) dL_sum_37 ?_
      refine lv_lload_n B.1 B.2.1 dL_sum_40 rfl (lv_at hl 1 rfl) ?_
      refine lv_lmul B.1 B.2.1 dL_sum_41 ?_
      refine lv_aload_n B.1 B.2.1 dL_sum_42 rfl (lv_at hl 0 rfl) ?_
      refine lv_iload_n B.1 B.2.1 dL_sum_43 rfl (lv_at hl 2 rfl) ?_
      refine qI (Cs := [[(q9, .inr (11, [.ref rd, .ref tx, .ref bd, .ref (F 0), .ref pa9, .int (iI (ol)), .int (iI (bk)), va_rf tr, va_rf kp]))], [((F 0), .inr (9, [.int (iI (z.1 0)), .int (iI (z.1 1)), .int (iI (z.1 2)), .int (iI (z.1 3)), .int (iI (z.1 4)), .int (iI (z.1 5)), .int (iI (z.1 6)), .int (iI (z.1 7)), .ref (F 1), .ref (F 2), .ref (F 3), .ref (F 4), .ref (F 5), .ref (F 6)]))], [((F 6), .inr (2, [.int (iI (z.2.2.2.2.2.2.2 0)), .int (iI (z.2.2.2.2.2.2.2 1)), .int (iI (z.2.2.2.2.2.2.2 2)), .int (iI (z.2.2.2.2.2.2.2 3)), .int (iI (z.2.2.2.2.2.2.2 4)), .int (iI (z.2.2.2.2.2.2.2 5)), .int (iI (z.2.2.2.2.2.2.2 6)), .int (iI (z.2.2.2.2.2.2.2 7)), .int (iI (z.2.2.2.2.2.2.2 8)), .int (iI (z.2.2.2.2.2.2.2 9)), .int (iI (z.2.2.2.2.2.2.2 10)), .int (iI (z.2.2.2.2.2.2.2 11)), .int (iI (z.2.2.2.2.2.2.2 12))]))]]) (Rs := [[((F 1), .inl (τ 3, 6, .inr (.inr (.inr (.inr (fun i => some (F (10 + i))))))))], (fam 6 (lkC F z.2.1)), [((F 2), .inl (τ 4, 40, .inr (.inr (.inr (.inr (fun i => some (F (20 + i))))))))], (fam 40 (dgC F z.2.2.1)), [((F 3), .inl (τ 5, 4, .inr (.inr (.inr (.inr (fun i => some (F (60 + i))))))))], (fam 4 (hpC F z.2.2.2.1 y.1)), (fam 4 (hvC τ y.1 y.2.1 y.2.2.1)), (pkB τ (F 4) (fun i => F (70 + i)) y.2.2.2.1.1 y.2.2.2.1.2.1 y.2.2.2.1.2.2.1 y.2.2.2.1.2.2.2), (ntB τ (F 5) y.2.2.2.2.1 y.2.2.2.2.2.1 y.2.2.2.2.2.2.1 y.2.2.2.2.2.2.2.1 y.2.2.2.2.2.2.2.2)]) Y [0, 1, 11] [2, 3, 4, 5, 6, 7, 8, 9, 10] (by decide) rfl (cV (As := [.int (iI ((i : Nat) : Int))]) (rest := [.long (31 * (itN (fun k a => h31 a (z.2.2.2.2.2.2.2 k)) (sumA z bk) i))]) (q0 := 0) B Y [0, 1, 11] (by decide) rfl (k_account l D τ _ q9 rd tx bd pa9 (ol) (bk) tr kp F z.1 z.2.2.2.2.2.2.2 i (by omega)) rfl rfl q_1098 q_1099 q_1100 q_2 q_1101 rfl rfl hd_X9_account ⟨(Nat.le_of_ble_eq_true rfl), (Nat.le_of_ble_eq_true rfl)⟩ rfl hl.1 rfl (Nat.le_of_ble_eq_true rfl) dL_sum_44 ⟨(Nat.le_of_ble_eq_true rfl), (Nat.le_of_ble_eq_true rfl)⟩) (fun r u H locs hw Y => ?_)
      subst hw
      have Y : Wd D τ s A s.heap (bl [[(q9, .inr (11, [.ref rd, .ref tx, .ref bd, .ref (F 0), .ref pa9, .int (iI (ol)), .int (iI (bk)), va_rf tr, va_rf kp]))], [((F 0), .inr (9, [.int (iI (z.1 0)), .int (iI (z.1 1)), .int (iI (z.1 2)), .int (iI (z.1 3)), .int (iI (z.1 4)), .int (iI (z.1 5)), .int (iI (z.1 6)), .int (iI (z.1 7)), .ref (F 1), .ref (F 2), .ref (F 3), .ref (F 4), .ref (F 5), .ref (F 6)]))], [((F 6), .inr (2, [.int (iI (z.2.2.2.2.2.2.2 0)), .int (iI (z.2.2.2.2.2.2.2 1)), .int (iI (z.2.2.2.2.2.2.2 2)), .int (iI (z.2.2.2.2.2.2.2 3)), .int (iI (z.2.2.2.2.2.2.2 4)), .int (iI (z.2.2.2.2.2.2.2 5)), .int (iI (z.2.2.2.2.2.2.2 6)), .int (iI (z.2.2.2.2.2.2.2 7)), .int (iI (z.2.2.2.2.2.2.2 8)), .int (iI (z.2.2.2.2.2.2.2 9)), .int (iI (z.2.2.2.2.2.2.2 10)), .int (iI (z.2.2.2.2.2.2.2 11)), .int (iI (z.2.2.2.2.2.2.2 12))]))], [((F 1), .inl (τ 3, 6, .inr (.inr (.inr (.inr (fun i => some (F (10 + i))))))))], (fam 6 (lkC F z.2.1)), [((F 2), .inl (τ 4, 40, .inr (.inr (.inr (.inr (fun i => some (F (20 + i))))))))], (fam 40 (dgC F z.2.2.1)), [((F 3), .inl (τ 5, 4, .inr (.inr (.inr (.inr (fun i => some (F (60 + i))))))))], (fam 4 (hpC F z.2.2.2.1 y.1)), (fam 4 (hvC τ y.1 y.2.1 y.2.2.1)), (pkB τ (F 4) (fun i => F (70 + i)) y.2.2.2.1.1 y.2.2.2.1.2.1 y.2.2.2.1.2.2.1 y.2.2.2.1.2.2.2), (ntB τ (F 5) y.2.2.2.2.1 y.2.2.2.2.2.1 y.2.2.2.2.2.2.1 y.2.2.2.2.2.2.2.1 y.2.2.2.2.2.2.2.2)]) _ _ := Y
      refine lv_i2l B.1 B.2.1 dL_sum_47 rfl ?_
      refine lv_ladd B.1 B.2.1 dL_sum_48 ?_
      refine lv_lstore_n (lv' := [(1, .long ((31 * (itN (fun k a => h31 a (z.2.2.2.2.2.2.2 k)) (sumA z bk) i)) + (Int32.toInt64 (iI (z.2.2.2.2.2.2.2 i))))), (0, .ref q9), (3, .int (iI ((i : Nat) : Int)))]) B.1 B.2.1 dL_sum_49 rfl hl (by decide) rfl (fun ls hl => ?_)
      refine lv_iinc (v := (iI (((i + 1) : Nat) : Int))) (lv' := [(3, .int (iI (((i + 1) : Nat) : Int))), (1, .long ((31 * (itN (fun k a => h31 a (z.2.2.2.2.2.2.2 k)) (sumA z bk) i)) + (Int32.toInt64 (iI (z.2.2.2.2.2.2.2 i))))), (0, .ref q9)]) B.1 B.2.1 dL_sum_50 hl (k := 2) rfl (iI_inc _) (by decide) rfl (fun ls hl => ?_)
      refine lv_goto (tgt := 31) B.1 B.2.1 dL_sum_53 (by decide) ?_
      exact ih H locs ls ⟨(by rw [itN_s]; exact lv_sub hl [2, 1, 0] rfl), Y.pick [0, 1, 3, 4, 5, 6, 7, 8, 9, 10, 11, 2] (by decide) rfl⟩
  · obtain ⟨hl, Y⟩ := hP
    refine lv_iload_n B.1 B.2.1 dL_sum_4 rfl (lv_at hl 2 rfl) ?_
    refine lv_bipush (v := (iI (15))) B.1 B.2.1 dL_sum_5 (by decide) ?_
    refine lv_icmp_ge (tgt := 29) B.1 B.2.1 dL_sum_7 (by decide) (fun h => absurd h (mt (iI_le (a := 15) (b := ((i : Nat) : Int)) (by omega) (by omega) (by omega) (by omega)).mp (by omega))) (fun _ => ?_)
    refine lv_ldc2 (v := 31) B.1 B.2.1 B.2.2.2.1 (B.2.2.2.2 _ q_1097) dL_sum_10 ?_
    refine lv_lload_n B.1 B.2.1 dL_sum_13 rfl (lv_at hl 1 rfl) ?_
    refine lv_lmul B.1 B.2.1 dL_sum_14 ?_
    refine lv_aload_n B.1 B.2.1 dL_sum_15 rfl (lv_at hl 0 rfl) ?_
    refine lv_iload_n B.1 B.2.1 dL_sum_16 rfl (lv_at hl 2 rfl) ?_
    refine qI (Cs := [[(q9, .inr (11, [.ref rd, .ref tx, .ref bd, .ref (F 0), .ref pa9, .int (iI (ol)), .int (iI (bk)), va_rf tr, va_rf kp]))], [((F 0), .inr (9, [.int (iI (z.1 0)), .int (iI (z.1 1)), .int (iI (z.1 2)), .int (iI (z.1 3)), .int (iI (z.1 4)), .int (iI (z.1 5)), .int (iI (z.1 6)), .int (iI (z.1 7)), .ref (F 1), .ref (F 2), .ref (F 3), .ref (F 4), .ref (F 5), .ref (F 6)]))], (pkB τ (F 4) (fun i => F (70 + i)) y.2.2.2.1.1 y.2.2.2.1.2.1 y.2.2.2.1.2.2.1 y.2.2.2.1.2.2.2), (ntB τ (F 5) y.2.2.2.2.1 y.2.2.2.2.2.1 y.2.2.2.2.2.2.1 y.2.2.2.2.2.2.2.1 y.2.2.2.2.2.2.2.2), [((F 3), .inl (τ 5, 4, .inr (.inr (.inr (.inr (fun i => some (F (60 + i))))))))], (fam 4 (hpC F z.2.2.2.1 y.1)), [((F 2), .inl (τ 4, 40, .inr (.inr (.inr (.inr (fun i => some (F (20 + i))))))))], (fam 40 (dgC F z.2.2.1))]) (Rs := [[((F 1), .inl (τ 3, 6, .inr (.inr (.inr (.inr (fun i => some (F (10 + i))))))))], (fam 6 (lkC F z.2.1)), (fam 4 (hvC τ y.1 y.2.1 y.2.2.1)), [((F 6), .inr (2, [.int (iI (z.2.2.2.2.2.2.2 0)), .int (iI (z.2.2.2.2.2.2.2 1)), .int (iI (z.2.2.2.2.2.2.2 2)), .int (iI (z.2.2.2.2.2.2.2 3)), .int (iI (z.2.2.2.2.2.2.2 4)), .int (iI (z.2.2.2.2.2.2.2 5)), .int (iI (z.2.2.2.2.2.2.2 6)), .int (iI (z.2.2.2.2.2.2.2 7)), .int (iI (z.2.2.2.2.2.2.2 8)), .int (iI (z.2.2.2.2.2.2.2 9)), .int (iI (z.2.2.2.2.2.2.2 10)), .int (iI (z.2.2.2.2.2.2.2 11)), .int (iI (z.2.2.2.2.2.2.2 12))]))]]) Y [0, 1, 9, 10, 6, 7, 4, 5] [2, 3, 8, 11] (by decide) rfl (cV (As := [.int (iI ((i : Nat) : Int))]) (rest := [.long (31 * (itN (fun k a => h31 a (sizV z bk k)) 0 i))]) (q0 := 0) B Y [0, 1, 9, 10, 6, 7, 4, 5] (by decide) rfl (k_size l D τ _ q9 rd tx bd pa9 (ol) (bk) tr kp F z.1 z.2.2.2.1 y.1 hI0 y.2.2.2.1.1 y.2.2.2.1.2.1 y.2.2.2.1.2.2.1 y.2.2.2.1.2.2.2 z.2.2.2.2.2.1 hRC.2.1 y.2.2.2.2.1 y.2.2.2.2.2.1 y.2.2.2.2.2.2.1 y.2.2.2.2.2.2.2.1 y.2.2.2.2.2.2.2.2 z.2.2.2.2.2.2.1 hRC.2.2.1 hRC.2.2.2.1 hRC.2.2.2.2 hN0 z.2.2.1 h7 hD5 i (by omega)) rfl rfl q_484 q_485 q_486 q_2 q_487 rfl rfl hd_X9_size ⟨(Nat.le_of_ble_eq_true rfl), (Nat.le_of_ble_eq_true rfl)⟩ rfl hl.1 rfl (Nat.le_of_ble_eq_true rfl) dL_sum_17 ⟨(Nat.le_of_ble_eq_true rfl), (Nat.le_of_ble_eq_true rfl)⟩) (fun r u H locs hw Y => ?_)
    have hw : r = iI (sizV z (bk) i) := hw
    subst hw
    have Y : Wd D τ s A s.heap (bl [[(q9, .inr (11, [.ref rd, .ref tx, .ref bd, .ref (F 0), .ref pa9, .int (iI (ol)), .int (iI (bk)), va_rf tr, va_rf kp]))], [((F 0), .inr (9, [.int (iI (z.1 0)), .int (iI (z.1 1)), .int (iI (z.1 2)), .int (iI (z.1 3)), .int (iI (z.1 4)), .int (iI (z.1 5)), .int (iI (z.1 6)), .int (iI (z.1 7)), .ref (F 1), .ref (F 2), .ref (F 3), .ref (F 4), .ref (F 5), .ref (F 6)]))], (pkB τ (F 4) (fun i => F (70 + i)) y.2.2.2.1.1 y.2.2.2.1.2.1 y.2.2.2.1.2.2.1 y.2.2.2.1.2.2.2), (ntB τ (F 5) y.2.2.2.2.1 y.2.2.2.2.2.1 y.2.2.2.2.2.2.1 y.2.2.2.2.2.2.2.1 y.2.2.2.2.2.2.2.2), [((F 3), .inl (τ 5, 4, .inr (.inr (.inr (.inr (fun i => some (F (60 + i))))))))], (fam 4 (hpC F z.2.2.2.1 y.1)), [((F 2), .inl (τ 4, 40, .inr (.inr (.inr (.inr (fun i => some (F (20 + i))))))))], (fam 40 (dgC F z.2.2.1)), [((F 1), .inl (τ 3, 6, .inr (.inr (.inr (.inr (fun i => some (F (10 + i))))))))], (fam 6 (lkC F z.2.1)), (fam 4 (hvC τ y.1 y.2.1 y.2.2.1)), [((F 6), .inr (2, [.int (iI (z.2.2.2.2.2.2.2 0)), .int (iI (z.2.2.2.2.2.2.2 1)), .int (iI (z.2.2.2.2.2.2.2 2)), .int (iI (z.2.2.2.2.2.2.2 3)), .int (iI (z.2.2.2.2.2.2.2 4)), .int (iI (z.2.2.2.2.2.2.2 5)), .int (iI (z.2.2.2.2.2.2.2 6)), .int (iI (z.2.2.2.2.2.2.2 7)), .int (iI (z.2.2.2.2.2.2.2 8)), .int (iI (z.2.2.2.2.2.2.2 9)), .int (iI (z.2.2.2.2.2.2.2 10)), .int (iI (z.2.2.2.2.2.2.2 11)), .int (iI (z.2.2.2.2.2.2.2 12))]))]]) _ _ := Y
    refine lv_i2l B.1 B.2.1 dL_sum_20 rfl ?_
    refine lv_ladd B.1 B.2.1 dL_sum_21 ?_
    refine lv_lstore_n (lv' := [(1, .long ((31 * (itN (fun k a => h31 a (sizV z bk k)) 0 i)) + (Int32.toInt64 (iI (sizV z (bk) i))))), (0, .ref q9), (3, .int (iI ((i : Nat) : Int)))]) B.1 B.2.1 dL_sum_22 rfl hl (by decide) rfl (fun ls hl => ?_)
    refine lv_iinc (v := (iI (((i + 1) : Nat) : Int))) (lv' := [(3, .int (iI (((i + 1) : Nat) : Int))), (1, .long ((31 * (itN (fun k a => h31 a (sizV z bk k)) 0 i)) + (Int32.toInt64 (iI (sizV z (bk) i))))), (0, .ref q9)]) B.1 B.2.1 dL_sum_23 hl (k := 2) rfl (iI_inc _) (by decide) rfl (fun ls hl => ?_)
    refine lv_goto (tgt := 4) B.1 B.2.1 dL_sum_26 (by decide) ?_
    exact ih H locs ls ⟨(by rw [itN_s]; exact lv_sub hl [2, 1, 0] rfl), Y.pick [0, 1, 8, 9, 6, 7, 4, 5, 10, 2, 3, 11] (by decide) rfl⟩

