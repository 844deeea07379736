def RL : String := "FragmentPathLaw"
abbrev cL_cell : ByteArray := method_2_code
def yL_cell : MethodName := ⟨RL, "cell", "([II)I"⟩
abbrev cL_reads : ByteArray := method_3_code
def yL_reads : MethodName := ⟨RL, "reads", "(LFragmentPath;)I"⟩
abbrev cL_runs : ByteArray := method_4_code
def yL_runs : MethodName := ⟨RL, "runs", "(LFragmentPath;)I"⟩
abbrev cL_comes : ByteArray := method_5_code
def yL_comes : MethodName := ⟨RL, "comes", "(LFragmentPath;Ljava/lang/String;)V"⟩
abbrev cL_load : ByteArray := method_6_code
def yL_load : MethodName := ⟨RL, "load", "(LFragmentPath;Ljava/lang/String;)I"⟩
abbrev cL_orders : ByteArray := method_7_code
def yL_orders : MethodName := ⟨RL, "orders", "(LFragmentPath;Ljava/lang/String;)I"⟩
abbrev cL_sum : ByteArray := method_8_code
def yL_sum : MethodName := ⟨RL, "sum", "(LFragmentPath;)J"⟩
abbrev cL_counts : ByteArray := method_9_code
def yL_counts : MethodName := ⟨RL, "counts", "(LFragmentPath;)Z"⟩
abbrev cL_heap : ByteArray := method_10_code
def yL_heap : MethodName := ⟨RL, "heap", "(LFragmentPath;I)Z"⟩
abbrev cL_foretells : ByteArray := method_11_code
def yL_foretells : MethodName := ⟨RL, "foretells", "(LFragmentPath;II)Z"⟩
abbrev cL_path : ByteArray := method_12_code
def yL_path : MethodName := ⟨RL, "path", "([I)Ljava/lang/String;"⟩
abbrev cL_acts : ByteArray := method_13_code
def yL_acts : MethodName := ⟨RL, "acts", "(LFragmentPath;IIIZ)I"⟩
abbrev cL_honest : ByteArray := method_14_code
def yL_honest : MethodName := ⟨RL, "honest", "(LFragmentPath;)Z"⟩
/-! L_cell -/
theorem dL_cell_0 : decode cL_cell 0 = .ok (.aload_n 0, 1) := by decide +kernel
theorem dL_cell_1 : decode cL_cell 1 = .ok (.arraylength, 1) := by decide +kernel
theorem dL_cell_2 : decode cL_cell 2 = .ok (.ifCond .ne 7, 3) := by decide +kernel
theorem dL_cell_5 : decode cL_cell 5 = .ok (.iconst 0, 1) := by decide +kernel
theorem dL_cell_6 : decode cL_cell 6 = .ok (.goto 15, 3) := by decide +kernel
theorem dL_cell_9 : decode cL_cell 9 = .ok (.aload_n 0, 1) := by decide +kernel
theorem dL_cell_10 : decode cL_cell 10 = .ok (.iload_n 1, 1) := by decide +kernel
theorem dL_cell_11 : decode cL_cell 11 = .ok (.aload_n 0, 1) := by decide +kernel
theorem dL_cell_12 : decode cL_cell 12 = .ok (.arraylength, 1) := by decide +kernel
theorem dL_cell_13 : decode cL_cell 13 = .ok (.irem, 1) := by decide +kernel
theorem dL_cell_14 : decode cL_cell 14 = .ok (.iaload, 1) := by decide +kernel
theorem dL_cell_15 : decode cL_cell 15 = .ok (.ldc 7, 2) := by decide +kernel
theorem dL_cell_17 : decode cL_cell 17 = .ok (.irem, 1) := by decide +kernel
theorem dL_cell_18 : decode cL_cell 18 = .ok (.invokestatic 8, 3) := by decide +kernel
theorem dL_cell_21 : decode cL_cell 21 = .ok (.ireturn, 1) := by decide +kernel
/-! L_comes -/
theorem dL_comes_0 : decode cL_comes 0 = .ok (.iconst 0, 1) := by decide +kernel
theorem dL_comes_1 : decode cL_comes 1 = .ok (.istore_n 2, 1) := by decide +kernel
theorem dL_comes_2 : decode cL_comes 2 = .ok (.iload_n 2, 1) := by decide +kernel
theorem dL_comes_3 : decode cL_comes 3 = .ok (.aload_n 1, 1) := by decide +kernel
theorem dL_comes_4 : decode cL_comes 4 = .ok (.invokevirtual 25, 3) := by decide +kernel
theorem dL_comes_7 : decode cL_comes 7 = .ok (.if_icmp .ge 89, 3) := by decide +kernel
theorem dL_comes_10 : decode cL_comes 10 = .ok (.iconst 5, 1) := by decide +kernel
theorem dL_comes_11 : decode cL_comes 11 = .ok (.newarray .int, 2) := by decide +kernel
theorem dL_comes_13 : decode cL_comes 13 = .ok (.astore_n 3, 1) := by decide +kernel
theorem dL_comes_14 : decode cL_comes 14 = .ok (.iconst 0, 1) := by decide +kernel
theorem dL_comes_15 : decode cL_comes 15 = .ok (.istore 4, 2) := by decide +kernel
theorem dL_comes_17 : decode cL_comes 17 = .ok (.iload 4, 2) := by decide +kernel
theorem dL_comes_19 : decode cL_comes 19 = .ok (.bipush 20, 2) := by decide +kernel
theorem dL_comes_21 : decode cL_comes 21 = .ok (.if_icmp .ge 48, 3) := by decide +kernel
theorem dL_comes_24 : decode cL_comes 24 = .ok (.aload_n 3, 1) := by decide +kernel
theorem dL_comes_25 : decode cL_comes 25 = .ok (.iload 4, 2) := by decide +kernel
theorem dL_comes_27 : decode cL_comes 27 = .ok (.iconst 4, 1) := by decide +kernel
theorem dL_comes_28 : decode cL_comes 28 = .ok (.idiv, 1) := by decide +kernel
theorem dL_comes_29 : decode cL_comes 29 = .ok (.aload_n 3, 1) := by decide +kernel
theorem dL_comes_30 : decode cL_comes 30 = .ok (.iload 4, 2) := by decide +kernel
theorem dL_comes_32 : decode cL_comes 32 = .ok (.iconst 4, 1) := by decide +kernel
theorem dL_comes_33 : decode cL_comes 33 = .ok (.idiv, 1) := by decide +kernel
theorem dL_comes_34 : decode cL_comes 34 = .ok (.iaload, 1) := by decide +kernel
theorem dL_comes_35 : decode cL_comes 35 = .ok (.bipush 8, 2) := by decide +kernel
theorem dL_comes_37 : decode cL_comes 37 = .ok (.ishl, 1) := by decide +kernel
theorem dL_comes_38 : decode cL_comes 38 = .ok (.iload_n 2, 1) := by decide +kernel
theorem dL_comes_39 : decode cL_comes 39 = .ok (.iload 4, 2) := by decide +kernel
theorem dL_comes_41 : decode cL_comes 41 = .ok (.iadd, 1) := by decide +kernel
theorem dL_comes_42 : decode cL_comes 42 = .ok (.aload_n 1, 1) := by decide +kernel
theorem dL_comes_43 : decode cL_comes 43 = .ok (.invokevirtual 25, 3) := by decide +kernel
theorem dL_comes_46 : decode cL_comes 46 = .ok (.if_icmp .ge 14, 3) := by decide +kernel
theorem dL_comes_49 : decode cL_comes 49 = .ok (.aload_n 1, 1) := by decide +kernel
theorem dL_comes_50 : decode cL_comes 50 = .ok (.iload_n 2, 1) := by decide +kernel
theorem dL_comes_51 : decode cL_comes 51 = .ok (.iload 4, 2) := by decide +kernel
theorem dL_comes_53 : decode cL_comes 53 = .ok (.iadd, 1) := by decide +kernel
theorem dL_comes_54 : decode cL_comes 54 = .ok (.invokevirtual 30, 3) := by decide +kernel
theorem dL_comes_57 : decode cL_comes 57 = .ok (.goto 4, 3) := by decide +kernel
theorem dL_comes_60 : decode cL_comes 60 = .ok (.iconst 0, 1) := by decide +kernel
theorem dL_comes_61 : decode cL_comes 61 = .ok (.ior, 1) := by decide +kernel
theorem dL_comes_62 : decode cL_comes 62 = .ok (.iastore, 1) := by decide +kernel
theorem dL_comes_63 : decode cL_comes 63 = .ok (.iinc 4 1, 3) := by decide +kernel
theorem dL_comes_66 : decode cL_comes 66 = .ok (.goto (-49), 3) := by decide +kernel
theorem dL_comes_69 : decode cL_comes 69 = .ok (.aload_n 0, 1) := by decide +kernel
theorem dL_comes_70 : decode cL_comes 70 = .ok (.aload_n 3, 1) := by decide +kernel
theorem dL_comes_71 : decode cL_comes 71 = .ok (.iconst 0, 1) := by decide +kernel
theorem dL_comes_72 : decode cL_comes 72 = .ok (.iaload, 1) := by decide +kernel
theorem dL_comes_73 : decode cL_comes 73 = .ok (.aload_n 3, 1) := by decide +kernel
theorem dL_comes_74 : decode cL_comes 74 = .ok (.iconst 1, 1) := by decide +kernel
theorem dL_comes_75 : decode cL_comes 75 = .ok (.iaload, 1) := by decide +kernel
theorem dL_comes_76 : decode cL_comes 76 = .ok (.aload_n 3, 1) := by decide +kernel
theorem dL_comes_77 : decode cL_comes 77 = .ok (.iconst 2, 1) := by decide +kernel
theorem dL_comes_78 : decode cL_comes 78 = .ok (.iaload, 1) := by decide +kernel
theorem dL_comes_79 : decode cL_comes 79 = .ok (.aload_n 3, 1) := by decide +kernel
theorem dL_comes_80 : decode cL_comes 80 = .ok (.iconst 3, 1) := by decide +kernel
theorem dL_comes_81 : decode cL_comes 81 = .ok (.iaload, 1) := by decide +kernel
theorem dL_comes_82 : decode cL_comes 82 = .ok (.aload_n 3, 1) := by decide +kernel
theorem dL_comes_83 : decode cL_comes 83 = .ok (.iconst 4, 1) := by decide +kernel
theorem dL_comes_84 : decode cL_comes 84 = .ok (.iaload, 1) := by decide +kernel
theorem dL_comes_85 : decode cL_comes 85 = .ok (.invokevirtual 34, 3) := by decide +kernel
theorem dL_comes_88 : decode cL_comes 88 = .ok (.istore 4, 2) := by decide +kernel
theorem dL_comes_90 : decode cL_comes 90 = .ok (.iinc 2 20, 3) := by decide +kernel
theorem dL_comes_93 : decode cL_comes 93 = .ok (.goto (-91), 3) := by decide +kernel
theorem dL_comes_96 : decode cL_comes 96 = .ok (.aload_n 0, 1) := by decide +kernel
theorem dL_comes_97 : decode cL_comes 97 = .ok (.aload_n 1, 1) := by decide +kernel
theorem dL_comes_98 : decode cL_comes 98 = .ok (.invokevirtual 25, 3) := by decide +kernel
theorem dL_comes_101 : decode cL_comes 101 = .ok (.invokevirtual 38, 3) := by decide +kernel
theorem dL_comes_104 : decode cL_comes 104 = .ok (.istore_n 2, 1) := by decide +kernel
theorem dL_comes_105 : decode cL_comes 105 = .ok (.return_, 1) := by decide +kernel
/-! L_load -/
theorem dL_load_0 : decode cL_load 0 = .ok (.aload_n 0, 1) := by decide +kernel
theorem dL_load_1 : decode cL_load 1 = .ok (.aload_n 1, 1) := by decide +kernel
theorem dL_load_2 : decode cL_load 2 = .ok (.invokestatic 41, 3) := by decide +kernel
theorem dL_load_5 : decode cL_load 5 = .ok (.aload_n 0, 1) := by decide +kernel
theorem dL_load_6 : decode cL_load 6 = .ok (.invokestatic 47, 3) := by decide +kernel
theorem dL_load_9 : decode cL_load 9 = .ok (.ireturn, 1) := by decide +kernel
/-! L_orders -/
theorem dL_orders_0 : decode cL_orders 0 = .ok (.aload_n 0, 1) := by decide +kernel
theorem dL_orders_1 : decode cL_orders 1 = .ok (.aload_n 1, 1) := by decide +kernel
theorem dL_orders_2 : decode cL_orders 2 = .ok (.invokestatic 41, 3) := by decide +kernel
theorem dL_orders_5 : decode cL_orders 5 = .ok (.aload_n 0, 1) := by decide +kernel
theorem dL_orders_6 : decode cL_orders 6 = .ok (.invokestatic 51, 3) := by decide +kernel
theorem dL_orders_9 : decode cL_orders 9 = .ok (.ireturn, 1) := by decide +kernel
/-! L_path -/
theorem dL_path_0 : decode cL_path 0 = .ok (.new 120, 3) := by decide +kernel
theorem dL_path_3 : decode cL_path 3 = .ok (.dup, 1) := by decide +kernel
theorem dL_path_4 : decode cL_path 4 = .ok (.invokespecial 122, 3) := by decide +kernel
theorem dL_path_7 : decode cL_path 7 = .ok (.astore_n 1, 1) := by decide +kernel
theorem dL_path_8 : decode cL_path 8 = .ok (.iconst 1, 1) := by decide +kernel
theorem dL_path_9 : decode cL_path 9 = .ok (.aload_n 0, 1) := by decide +kernel
theorem dL_path_10 : decode cL_path 10 = .ok (.iconst 0, 1) := by decide +kernel
theorem dL_path_11 : decode cL_path 11 = .ok (.invokestatic 123, 3) := by decide +kernel
theorem dL_path_14 : decode cL_path 14 = .ok (.iconst 4, 1) := by decide +kernel
theorem dL_path_15 : decode cL_path 15 = .ok (.irem, 1) := by decide +kernel
theorem dL_path_16 : decode cL_path 16 = .ok (.iadd, 1) := by decide +kernel
theorem dL_path_17 : decode cL_path 17 = .ok (.istore_n 2, 1) := by decide +kernel
theorem dL_path_18 : decode cL_path 18 = .ok (.iconst 0, 1) := by decide +kernel
theorem dL_path_19 : decode cL_path 19 = .ok (.istore_n 3, 1) := by decide +kernel
theorem dL_path_20 : decode cL_path 20 = .ok (.iload_n 3, 1) := by decide +kernel
theorem dL_path_21 : decode cL_path 21 = .ok (.iload_n 2, 1) := by decide +kernel
theorem dL_path_22 : decode cL_path 22 = .ok (.if_icmp .ge 115, 3) := by decide +kernel
theorem dL_path_25 : decode cL_path 25 = .ok (.aload_n 1, 1) := by decide +kernel
theorem dL_path_26 : decode cL_path 26 = .ok (.iload_n 3, 1) := by decide +kernel
theorem dL_path_27 : decode cL_path 27 = .ok (.ifCond .ne 8, 3) := by decide +kernel
theorem dL_path_30 : decode cL_path 30 = .ok (.ldc 127, 2) := by decide +kernel
theorem dL_path_32 : decode cL_path 32 = .ok (.goto 5, 3) := by decide +kernel
theorem dL_path_35 : decode cL_path 35 = .ok (.ldc 129, 2) := by decide +kernel
theorem dL_path_37 : decode cL_path 37 = .ok (.invokevirtual 131, 3) := by decide +kernel
theorem dL_path_40 : decode cL_path 40 = .ok (.ldc 134, 2) := by decide +kernel
theorem dL_path_42 : decode cL_path 42 = .ok (.invokevirtual 131, 3) := by decide +kernel
theorem dL_path_45 : decode cL_path 45 = .ok (.bipush 28, 2) := by decide +kernel
theorem dL_path_47 : decode cL_path 47 = .ok (.aload_n 0, 1) := by decide +kernel
theorem dL_path_48 : decode cL_path 48 = .ok (.iconst 1, 1) := by decide +kernel
theorem dL_path_49 : decode cL_path 49 = .ok (.iload_n 3, 1) := by decide +kernel
theorem dL_path_50 : decode cL_path 50 = .ok (.iadd, 1) := by decide +kernel
theorem dL_path_51 : decode cL_path 51 = .ok (.invokestatic 123, 3) := by decide +kernel
theorem dL_path_54 : decode cL_path 54 = .ok (.iload_n 3, 1) := by decide +kernel
theorem dL_path_55 : decode cL_path 55 = .ok (.ifCond .ne 9, 3) := by decide +kernel
theorem dL_path_58 : decode cL_path 58 = .ok (.sipush 1200, 3) := by decide +kernel
theorem dL_path_61 : decode cL_path 61 = .ok (.goto 6, 3) := by decide +kernel
theorem dL_path_64 : decode cL_path 64 = .ok (.sipush 300, 3) := by decide +kernel
theorem dL_path_67 : decode cL_path 67 = .ok (.irem, 1) := by decide +kernel
theorem dL_path_68 : decode cL_path 68 = .ok (.iadd, 1) := by decide +kernel
theorem dL_path_69 : decode cL_path 69 = .ok (.invokevirtual 136, 3) := by decide +kernel
theorem dL_path_72 : decode cL_path 72 = .ok (.bipush 32, 2) := by decide +kernel
theorem dL_path_74 : decode cL_path 74 = .ok (.invokevirtual 139, 3) := by decide +kernel
theorem dL_path_77 : decode cL_path 77 = .ok (.iconst 1, 1) := by decide +kernel
theorem dL_path_78 : decode cL_path 78 = .ok (.aload_n 0, 1) := by decide +kernel
theorem dL_path_79 : decode cL_path 79 = .ok (.iconst 5, 1) := by decide +kernel
theorem dL_path_80 : decode cL_path 80 = .ok (.iload_n 3, 1) := by decide +kernel
theorem dL_path_81 : decode cL_path 81 = .ok (.iadd, 1) := by decide +kernel
theorem dL_path_82 : decode cL_path 82 = .ok (.invokestatic 123, 3) := by decide +kernel
theorem dL_path_85 : decode cL_path 85 = .ok (.bipush 20, 2) := by decide +kernel
theorem dL_path_87 : decode cL_path 87 = .ok (.irem, 1) := by decide +kernel
theorem dL_path_88 : decode cL_path 88 = .ok (.iadd, 1) := by decide +kernel
theorem dL_path_89 : decode cL_path 89 = .ok (.invokevirtual 136, 3) := by decide +kernel
theorem dL_path_92 : decode cL_path 92 = .ok (.bipush 32, 2) := by decide +kernel
theorem dL_path_94 : decode cL_path 94 = .ok (.invokevirtual 139, 3) := by decide +kernel
theorem dL_path_97 : decode cL_path 97 = .ok (.aload_n 0, 1) := by decide +kernel
theorem dL_path_98 : decode cL_path 98 = .ok (.bipush 9, 2) := by decide +kernel
theorem dL_path_100 : decode cL_path 100 = .ok (.iload_n 3, 1) := by decide +kernel
theorem dL_path_101 : decode cL_path 101 = .ok (.iadd, 1) := by decide +kernel
theorem dL_path_102 : decode cL_path 102 = .ok (.invokestatic 123, 3) := by decide +kernel
theorem dL_path_105 : decode cL_path 105 = .ok (.iconst 2, 1) := by decide +kernel
theorem dL_path_106 : decode cL_path 106 = .ok (.irem, 1) := by decide +kernel
theorem dL_path_107 : decode cL_path 107 = .ok (.ifCond .ne 7, 3) := by decide +kernel
theorem dL_path_110 : decode cL_path 110 = .ok (.iconst 0, 1) := by decide +kernel
theorem dL_path_111 : decode cL_path 111 = .ok (.goto 16, 3) := by decide +kernel
theorem dL_path_114 : decode cL_path 114 = .ok (.iconst 2, 1) := by decide +kernel
theorem dL_path_115 : decode cL_path 115 = .ok (.aload_n 0, 1) := by decide +kernel
theorem dL_path_116 : decode cL_path 116 = .ok (.bipush 9, 2) := by decide +kernel
theorem dL_path_118 : decode cL_path 118 = .ok (.iload_n 3, 1) := by decide +kernel
theorem dL_path_119 : decode cL_path 119 = .ok (.iadd, 1) := by decide +kernel
theorem dL_path_120 : decode cL_path 120 = .ok (.invokestatic 123, 3) := by decide +kernel
theorem dL_path_123 : decode cL_path 123 = .ok (.bipush 30, 2) := by decide +kernel
theorem dL_path_125 : decode cL_path 125 = .ok (.irem, 1) := by decide +kernel
theorem dL_path_126 : decode cL_path 126 = .ok (.iadd, 1) := by decide +kernel
theorem dL_path_127 : decode cL_path 127 = .ok (.invokevirtual 136, 3) := by decide +kernel
theorem dL_path_130 : decode cL_path 130 = .ok (.pop, 1) := by decide +kernel
theorem dL_path_131 : decode cL_path 131 = .ok (.iinc 3 1, 3) := by decide +kernel
theorem dL_path_134 : decode cL_path 134 = .ok (.goto (-114), 3) := by decide +kernel
theorem dL_path_137 : decode cL_path 137 = .ok (.iconst 0, 1) := by decide +kernel
theorem dL_path_138 : decode cL_path 138 = .ok (.istore_n 3, 1) := by decide +kernel
theorem dL_path_139 : decode cL_path 139 = .ok (.iload_n 3, 1) := by decide +kernel
theorem dL_path_140 : decode cL_path 140 = .ok (.aload_n 0, 1) := by decide +kernel
theorem dL_path_141 : decode cL_path 141 = .ok (.bipush 13, 2) := by decide +kernel
theorem dL_path_143 : decode cL_path 143 = .ok (.invokestatic 123, 3) := by decide +kernel
theorem dL_path_146 : decode cL_path 146 = .ok (.iconst 4, 1) := by decide +kernel
theorem dL_path_147 : decode cL_path 147 = .ok (.irem, 1) := by decide +kernel
theorem dL_path_148 : decode cL_path 148 = .ok (.if_icmp .ge 76, 3) := by decide +kernel
theorem dL_path_151 : decode cL_path 151 = .ok (.aload_n 1, 1) := by decide +kernel
theorem dL_path_152 : decode cL_path 152 = .ok (.ldc 142, 2) := by decide +kernel
theorem dL_path_154 : decode cL_path 154 = .ok (.invokevirtual 131, 3) := by decide +kernel
theorem dL_path_157 : decode cL_path 157 = .ok (.iconst 1, 1) := by decide +kernel
theorem dL_path_158 : decode cL_path 158 = .ok (.aload_n 0, 1) := by decide +kernel
theorem dL_path_159 : decode cL_path 159 = .ok (.bipush 14, 2) := by decide +kernel
theorem dL_path_161 : decode cL_path 161 = .ok (.iload_n 3, 1) := by decide +kernel
theorem dL_path_162 : decode cL_path 162 = .ok (.iadd, 1) := by decide +kernel
theorem dL_path_163 : decode cL_path 163 = .ok (.invokestatic 123, 3) := by decide +kernel
theorem dL_path_166 : decode cL_path 166 = .ok (.sipush 400, 3) := by decide +kernel
theorem dL_path_169 : decode cL_path 169 = .ok (.irem, 1) := by decide +kernel
theorem dL_path_170 : decode cL_path 170 = .ok (.iadd, 1) := by decide +kernel
theorem dL_path_171 : decode cL_path 171 = .ok (.invokevirtual 136, 3) := by decide +kernel
theorem dL_path_174 : decode cL_path 174 = .ok (.bipush 32, 2) := by decide +kernel
theorem dL_path_176 : decode cL_path 176 = .ok (.invokevirtual 139, 3) := by decide +kernel
theorem dL_path_179 : decode cL_path 179 = .ok (.aload_n 0, 1) := by decide +kernel
theorem dL_path_180 : decode cL_path 180 = .ok (.bipush 18, 2) := by decide +kernel
theorem dL_path_182 : decode cL_path 182 = .ok (.iload_n 3, 1) := by decide +kernel
theorem dL_path_183 : decode cL_path 183 = .ok (.iadd, 1) := by decide +kernel
theorem dL_path_184 : decode cL_path 184 = .ok (.invokestatic 123, 3) := by decide +kernel
theorem dL_path_187 : decode cL_path 187 = .ok (.sipush 256, 3) := by decide +kernel
theorem dL_path_190 : decode cL_path 190 = .ok (.irem, 1) := by decide +kernel
theorem dL_path_191 : decode cL_path 191 = .ok (.invokevirtual 136, 3) := by decide +kernel
theorem dL_path_194 : decode cL_path 194 = .ok (.aload_n 0, 1) := by decide +kernel
theorem dL_path_195 : decode cL_path 195 = .ok (.bipush 22, 2) := by decide +kernel
theorem dL_path_197 : decode cL_path 197 = .ok (.iload_n 3, 1) := by decide +kernel
theorem dL_path_198 : decode cL_path 198 = .ok (.iadd, 1) := by decide +kernel
theorem dL_path_199 : decode cL_path 199 = .ok (.invokestatic 123, 3) := by decide +kernel
theorem dL_path_202 : decode cL_path 202 = .ok (.iconst 2, 1) := by decide +kernel
theorem dL_path_203 : decode cL_path 203 = .ok (.irem, 1) := by decide +kernel
theorem dL_path_204 : decode cL_path 204 = .ok (.ifCond .ne 8, 3) := by decide +kernel
theorem dL_path_207 : decode cL_path 207 = .ok (.ldc 127, 2) := by decide +kernel
theorem dL_path_209 : decode cL_path 209 = .ok (.goto 5, 3) := by decide +kernel
theorem dL_path_212 : decode cL_path 212 = .ok (.ldc 144, 2) := by decide +kernel
theorem dL_path_214 : decode cL_path 214 = .ok (.invokevirtual 131, 3) := by decide +kernel
theorem dL_path_217 : decode cL_path 217 = .ok (.pop, 1) := by decide +kernel
theorem dL_path_218 : decode cL_path 218 = .ok (.iinc 3 1, 3) := by decide +kernel
theorem dL_path_221 : decode cL_path 221 = .ok (.goto (-82), 3) := by decide +kernel
theorem dL_path_224 : decode cL_path 224 = .ok (.aload_n 1, 1) := by decide +kernel
theorem dL_path_225 : decode cL_path 225 = .ok (.ldc 146, 2) := by decide +kernel
theorem dL_path_227 : decode cL_path 227 = .ok (.invokevirtual 131, 3) := by decide +kernel
theorem dL_path_230 : decode cL_path 230 = .ok (.bipush 10, 2) := by decide +kernel
theorem dL_path_232 : decode cL_path 232 = .ok (.aload_n 0, 1) := by decide +kernel
theorem dL_path_233 : decode cL_path 233 = .ok (.bipush 26, 2) := by decide +kernel
theorem dL_path_235 : decode cL_path 235 = .ok (.invokestatic 123, 3) := by decide +kernel
theorem dL_path_238 : decode cL_path 238 = .ok (.bipush 100, 2) := by decide +kernel
theorem dL_path_240 : decode cL_path 240 = .ok (.irem, 1) := by decide +kernel
theorem dL_path_241 : decode cL_path 241 = .ok (.iadd, 1) := by decide +kernel
theorem dL_path_242 : decode cL_path 242 = .ok (.invokevirtual 136, 3) := by decide +kernel
theorem dL_path_245 : decode cL_path 245 = .ok (.ldc 148, 2) := by decide +kernel
theorem dL_path_247 : decode cL_path 247 = .ok (.invokevirtual 131, 3) := by decide +kernel
theorem dL_path_250 : decode cL_path 250 = .ok (.aload_n 0, 1) := by decide +kernel
theorem dL_path_251 : decode cL_path 251 = .ok (.bipush 27, 2) := by decide +kernel
theorem dL_path_253 : decode cL_path 253 = .ok (.invokestatic 123, 3) := by decide +kernel
theorem dL_path_256 : decode cL_path 256 = .ok (.iconst 3, 1) := by decide +kernel
theorem dL_path_257 : decode cL_path 257 = .ok (.irem, 1) := by decide +kernel
theorem dL_path_258 : decode cL_path 258 = .ok (.invokevirtual 136, 3) := by decide +kernel
theorem dL_path_261 : decode cL_path 261 = .ok (.invokevirtual 150, 3) := by decide +kernel
theorem dL_path_264 : decode cL_path 264 = .ok (.areturn, 1) := by decide +kernel
theorem hd_L_cell : yL_cell.cls ≠ "java/lang/invoke/MethodHandle" ∧ yL_cell.cls ≠ "java/lang/invoke/VarHandle" ∧ (parseMethodDescriptor yL_cell.desc).map (fun d => d.parameters.length) = some 2 := by decide +kernel
theorem hd_L_comes : yL_comes.cls ≠ "java/lang/invoke/MethodHandle" ∧ yL_comes.cls ≠ "java/lang/invoke/VarHandle" ∧ (parseMethodDescriptor yL_comes.desc).map (fun d => d.parameters.length) = some 2 := by decide +kernel
theorem hd_L_load : yL_load.cls ≠ "java/lang/invoke/MethodHandle" ∧ yL_load.cls ≠ "java/lang/invoke/VarHandle" ∧ (parseMethodDescriptor yL_load.desc).map (fun d => d.parameters.length) = some 2 := by decide +kernel
theorem hd_L_orders : yL_orders.cls ≠ "java/lang/invoke/MethodHandle" ∧ yL_orders.cls ≠ "java/lang/invoke/VarHandle" ∧ (parseMethodDescriptor yL_orders.desc).map (fun d => d.parameters.length) = some 2 := by decide +kernel
theorem hd_L_path : yL_path.cls ≠ "java/lang/invoke/MethodHandle" ∧ yL_path.cls ≠ "java/lang/invoke/VarHandle" ∧ (parseMethodDescriptor yL_path.desc).map (fun d => d.parameters.length) = some 1 := by decide +kernel
/-- what the law's methods know of the start: the constants, and the script at bs -/
def EL (K : Nat → Nat) (bs Ln : Nat) (xs : Nat → Int32) (A : Nat → Prop) (U : State) : Prop := KJ K A U ∧ va_X bs Ln xs U U.heap ∧ bs < U.heap.size ∧ ¬ A bs
theorem EL.ok (K : Nat → Nat) (bs Ln : Nat) (xs : Nat → Int32) : EOK (EL K bs Ln xs) := by
  refine ⟨fun A a U g mk h => ⟨(KJ.ok K).1 A a U g mk h.1, va_X.moved (u := U) (U := U.calling g mk a) (Vm.Alike.refl U.vm) h.2.1, h.2.2⟩, fun A B s U h hk hW hF => ?_⟩
  obtain ⟨h1, h2, h3, h4⟩ := h
  have e := hk bs h3 h4
  refine ⟨(KJ.ok K).2 A B s U h1 hk hW hF, va_X.moved hW.alike (h2.kept e), ?_, fun q => h4 (hF bs q)⟩
  rw [Array.getElem?_eq_getElem h3] at e
  exact (Array.getElem?_eq_some_iff.mp e).1
def cellN (xs : Nat → Int32) (Ln i : Nat) : Nat := if Ln = 0 then 0 else ((xs (i % Ln)).toInt.tmod 100000).natAbs
theorem cellN_lt (xs : Nat → Int32) (Ln i : Nat) : cellN xs Ln i < 100000 := by
  unfold cellN
  split
  · decide
  · have h := Int.natAbs_tmod (xs (i % Ln)).toInt 100000
    rw [h]
    exact Nat.mod_lt _ (by decide)
theorem i32_rem (x : Int32) : x - x / iI 100000 * iI 100000 = iI (x.toInt.tmod 100000) := by
  have hx1 := x.le_toInt
  have hx2 := x.toInt_lt
  have h1 := Int.tmod_add_mul_tdiv x.toInt 100000
  have h8 := Int.natAbs_tmod x.toInt 100000
  have h7 : x.toInt.natAbs % (100000 : Int).natAbs < 100000 := Nat.mod_lt _ (by decide)
  have hb : (x / iI 100000) = iI (x.toInt.tdiv 100000) := by
    apply Int32.toInt_inj.mp
    have ht : -2147483648 ≤ x.toInt.tdiv 100000 ∧ x.toInt.tdiv 100000 < 2147483648 := by omega
    rw [Int32.toInt_div, iI_toInt (by decide) (by decide), iI_toInt ht.1 ht.2, Int.bmod_def]
    split <;> omega
  have hxx : ∀ z : Int, x - iI z = iI (x.toInt - z) := fun z => by rw [← iI_sub, show iI x.toInt = x from Int32.ofInt_toInt x]
  rw [hb, iI_mul, hxx]
  congr 1
  omega
set_option maxHeartbeats 4000000 in
set_option maxRecDepth 100000 in
theorem k9_abs (l : Launch) (D : va_G) (τ : Nat → ClassId) (sz : Nat) (v : Int) (h0 : -2000000000 ≤ v ∧ v ≤ 2000000000) : Met l yJ9_abs_0f7a4 (Cond.code yJ9_abs_0f7a4 cJ9_abs_0f7a4 1 (some .int) :: wALL) { frames := 0, cells := 0, slots := 0, locals := 0 } (Pw D τ (bl []) sz [.int (iI (v))]) (va_Qi (fun (r : Int32) (_ : Unit) => r = iI ((v.natAbs : Nat) : Int)) (Bb D (va_A (bl []) sz) (fun (_ : Unit) => [])) (va_A (bl []) sz)) 0 0 (va_A (bl []) sz) := by
  refine bodyWF (by decide +kernel) (Nat.le_of_ble_eq_true rfl) (fun p e s m below meth c ls B hr hlk hin hsz Y hl => ?_)
  have hl : lv_has ls 1 [(0, .int (iI (v)))] := hl
  have B : CallFix p m c cJ9_abs_0f7a4 1 s _ wALL RJ9 := B
  generalize va_A (bl []) sz = A at Y ⊢
  refine lv_iload_n B.1 B.2.1 dJ9_abs_0f7a4_0 rfl (lv_at hl 0 rfl) ?_
  refine lv_if_ge (tgt := 9) B.1 B.2.1 dJ9_abs_0f7a4_1 (by decide) (fun c1 => ?_) (fun c1 => ?_)
  · have c1 := (iI_ge0 (a := v) (by omega) (by omega)).mp c1
    refine lv_iload_n B.1 B.2.1 dJ9_abs_0f7a4_9 rfl (lv_at hl 0 rfl) ?_
    exact eI B hr hlk Y () (congrArg iI (by omega)) [] (by decide) rfl (Nat.le_of_ble_eq_true rfl) (Nat.le_of_ble_eq_true rfl) dJ9_abs_0f7a4_10
  · have c1 := mt (iI_ge0 (a := v) (by omega) (by omega)).mpr c1
    refine lv_iload_n B.1 B.2.1 dJ9_abs_0f7a4_4 rfl (lv_at hl 0 rfl) ?_
    refine lv_ineg B.1 B.2.1 dJ9_abs_0f7a4_5 ?_
    refine lv_cv (v := (iI (-v))) (iI_neg _) ?_
    refine lv_goto (tgt := 10) B.1 B.2.1 dJ9_abs_0f7a4_6 (by decide) ?_
    exact eI B hr hlk Y () (congrArg iI (by omega)) [] (by decide) rfl (Nat.le_of_ble_eq_true rfl) (Nat.le_of_ble_eq_true rfl) dJ9_abs_0f7a4_10

set_option maxHeartbeats 4000000 in
set_option maxRecDepth 100000 in
theorem h_cell (l : Launch) (D : va_G) (τ : Nat → ClassId) (sz : Nat) (K : Nat → Nat) (bs Ln : Nat) (xs : Nat → Int32) (i : Nat) (hi : i < 1000) (hLn : Ln ≤ 260) : Met l yL_cell (Cond.code yL_cell cL_cell 2 (some .int) :: wALL) { frames := 1, cells := 0, slots := 0, locals := 20 } (PwE (EL K bs Ln xs) D τ (bl []) sz [.ref bs, .int (iI ((i : Nat) : Int))]) (va_Qi (fun (r : Int32) (_ : Unit) => r = iI ((cellN xs Ln i : Nat) : Int)) (Bb D (va_A (bl []) sz) (fun (_ : Unit) => [])) (va_A (bl []) sz)) 0 0 (va_A (bl []) sz) := by
  refine bodyE (by decide +kernel) (Nat.le_of_ble_eq_true rfl) (fun p e s m below meth c ls B hr hlk hin hsz Y hL hl => ?_)
  have hl : lv_has ls 2 [(0, .ref bs), (1, .int (iI ((i : Nat) : Int)))] := hl
  have B : CallFix p m c cL_cell 2 s _ wALL RL := B
  generalize va_A (bl []) sz = A at Y hL ⊢
  have hK := hL.1
  have hE := hK.1
  have htm := Int.natAbs_tmod (xs (i % Ln)).toInt 100000
  have htl : (xs (i % Ln)).toInt.natAbs % (100000 : Int).natAbs < 100000 := Nat.mod_lt _ (by decide)
  refine lv_aload_n B.1 B.2.1 dL_cell_0 rfl (lv_at hl 0 rfl) ?_
  refine va_slen B.1 B.2.1 hL.2.1 hL.2.2.1 hL.2.2.2 Y.2.2.2.1 dL_cell_1 ?_
  refine lv_cv (v := (iI ((Ln : Nat) : Int))) (iI_nat _) ?_
  refine lv_if_ne (tgt := 9) B.1 B.2.1 dL_cell_2 (by decide) (fun c1 => ?_) (fun c1 => ?_)
  · have c1 := mt (iI_eq0 (a := ((Ln : Nat) : Int)) (by omega) (by omega)).mpr c1
    refine lv_aload_n B.1 B.2.1 dL_cell_9 rfl (lv_at hl 0 rfl) ?_
    refine lv_iload_n B.1 B.2.1 dL_cell_10 rfl (lv_at hl 1 rfl) ?_
    refine lv_aload_n B.1 B.2.1 dL_cell_11 rfl (lv_at hl 0 rfl) ?_
    refine va_slen B.1 B.2.1 hL.2.1 hL.2.2.1 hL.2.2.2 Y.2.2.2.1 dL_cell_12 ?_
    refine lv_cv (v := (iI ((Ln : Nat) : Int))) (iI_nat _) ?_
    refine lv_irem B.1 B.2.1 dL_cell_13 (iI_ne0 (by omega) (by omega) (by omega)) ?_
    refine lv_cv (v := (iI (((i % Ln) : Nat) : Int))) ((iI_rem (by omega) (by omega) (by omega) (by omega)).trans (congrArg iI (Int.natCast_emod i Ln).symm)) ?_
    have hml : i % Ln < Ln := Nat.mod_lt _ (by omega)
    refine va_sld B.1 B.2.1 hL.2.1 hL.2.2.1 hL.2.2.2 Y.2.2.2.1 (vin_of (iI_pos (by omega)) (j := (i % Ln)) (iI_clamp (by omega)) (by omega)) dL_cell_14 ?_
    refine lv_cv (v := (xs (i % Ln))) (congrArg xs (iI_clamp (by omega))) ?_
    refine lv_ldc B.1 B.2.1 B.2.2.2.1 (B.2.2.2.2 _ q_690) dL_cell_15 ?_
    refine lv_cv (v := (iI (100000))) (by decide) ?_
    refine lv_irem B.1 B.2.1 dL_cell_17 (by decide) ?_
    refine lv_cv (v := (iI (((xs (i % Ln)).toInt.tmod 100000)))) (i32_rem _) ?_
    refine qI (Cs := []) (Rs := []) Y [] [] (by decide) rfl (cS (As := [.int (iI (((xs (i % Ln)).toInt.tmod 100000)))]) (rest := []) B Y [] (by decide) rfl (k9_abs l D τ _ (((xs (i % Ln)).toInt.tmod 100000)) (by omega)) q_691 q_692 q_1 q_693 rfl rfl hd_J9_abs_0f7a4 ⟨(Nat.le_of_ble_eq_true rfl), (Nat.le_of_ble_eq_true rfl)⟩ rfl hl.1 rfl (Nat.le_of_ble_eq_true rfl) dL_cell_18 ⟨(Nat.le_of_ble_eq_true rfl), (Nat.le_of_ble_eq_true rfl)⟩) (fun r u H locs hw Y => ?_)
    subst hw
    have Y : Wd D τ s A s.heap (bl []) _ _ := Y
    exact eI B hr hlk Y () (by unfold cellN; rw [if_neg (by omega)]) [] (by decide) rfl (Nat.le_of_ble_eq_true rfl) (Nat.le_of_ble_eq_true rfl) dL_cell_21
  · have c1 := (iI_eq0 (a := ((Ln : Nat) : Int)) (by omega) (by omega)).mp c1
    refine lv_iconst (v := (iI (0))) B.1 B.2.1 dL_cell_5 (by decide) ?_
    refine lv_goto (tgt := 21) B.1 B.2.1 dL_cell_6 (by decide) ?_
    exact eI B hr hlk Y () (by unfold cellN; rw [if_pos (by omega)]; rfl) [] (by decide) rfl (Nat.le_of_ble_eq_true rfl) (Nat.le_of_ble_eq_true rfl) dL_cell_21

