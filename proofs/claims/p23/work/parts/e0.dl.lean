/-! ===== decode rows of the law ===== -/
theorem dL_low_0 : decode cL_low 0 = .ok (.iload_n 0, 1) := by decide +kernel
theorem dL_low_1 : decode cL_low 1 = .ok (.ldc 7, 2) := by decide +kernel
theorem dL_low_3 : decode cL_low 3 = .ok (.iand, 1) := by decide +kernel
theorem dL_low_4 : decode cL_low 4 = .ok (.iload_n 1, 1) := by decide +kernel
theorem dL_low_5 : decode cL_low 5 = .ok (.irem, 1) := by decide +kernel
theorem dL_low_6 : decode cL_low 6 = .ok (.ireturn, 1) := by decide +kernel
theorem dL_cell_0 : decode cL_cell 0 = .ok (.iload_n 1, 1) := by decide +kernel
theorem dL_cell_1 : decode cL_cell 1 = .ok (.aload_n 0, 1) := by decide +kernel
theorem dL_cell_2 : decode cL_cell 2 = .ok (.arraylength, 1) := by decide +kernel
theorem dL_cell_3 : decode cL_cell 3 = .ok (.if_icmp .ge 9, 3) := by decide +kernel
theorem dL_cell_6 : decode cL_cell 6 = .ok (.aload_n 0, 1) := by decide +kernel
theorem dL_cell_7 : decode cL_cell 7 = .ok (.iload_n 1, 1) := by decide +kernel
theorem dL_cell_8 : decode cL_cell 8 = .ok (.iaload, 1) := by decide +kernel
theorem dL_cell_9 : decode cL_cell 9 = .ok (.goto 11, 3) := by decide +kernel
theorem dL_cell_12 : decode cL_cell 12 = .ok (.ldc 8, 2) := by decide +kernel
theorem dL_cell_14 : decode cL_cell 14 = .ok (.iload_n 1, 1) := by decide +kernel
theorem dL_cell_15 : decode cL_cell 15 = .ok (.imul, 1) := by decide +kernel
theorem dL_cell_16 : decode cL_cell 16 = .ok (.sipush 977, 3) := by decide +kernel
theorem dL_cell_19 : decode cL_cell 19 = .ok (.iadd, 1) := by decide +kernel
theorem dL_cell_20 : decode cL_cell 20 = .ok (.ireturn, 1) := by decide +kernel
theorem dL_simple_0 : decode cL_simple 0 = .ok (.iload_n 1, 1) := by decide +kernel
theorem dL_simple_1 : decode cL_simple 1 = .ok (.iconst 3, 1) := by decide +kernel
theorem dL_simple_2 : decode cL_simple 2 = .ok (.if_icmp .ge 32, 3) := by decide +kernel
theorem dL_simple_5 : decode cL_simple 5 = .ok (.aload_n 0, 1) := by decide +kernel
theorem dL_simple_6 : decode cL_simple 6 = .ok (.iload_n 1, 1) := by decide +kernel
theorem dL_simple_7 : decode cL_simple 7 = .ok (.ifCond .ne 8, 3) := by decide +kernel
theorem dL_simple_10 : decode cL_simple 10 = .ok (.bipush 110, 2) := by decide +kernel
theorem dL_simple_12 : decode cL_simple 12 = .ok (.goto 15, 3) := by decide +kernel
theorem dL_simple_15 : decode cL_simple 15 = .ok (.iload_n 1, 1) := by decide +kernel
theorem dL_simple_16 : decode cL_simple 16 = .ok (.iconst 1, 1) := by decide +kernel
theorem dL_simple_17 : decode cL_simple 17 = .ok (.if_icmp .ne 8, 3) := by decide +kernel
theorem dL_simple_20 : decode cL_simple 20 = .ok (.bipush 116, 2) := by decide +kernel
theorem dL_simple_22 : decode cL_simple 22 = .ok (.goto 5, 3) := by decide +kernel
theorem dL_simple_25 : decode cL_simple 25 = .ok (.bipush 102, 2) := by decide +kernel
theorem dL_simple_27 : decode cL_simple 27 = .ok (.invokevirtual 9, 3) := by decide +kernel
theorem dL_simple_30 : decode cL_simple 30 = .ok (.pop, 1) := by decide +kernel
theorem dL_simple_31 : decode cL_simple 31 = .ok (.goto 94, 3) := by decide +kernel
theorem dL_simple_34 : decode cL_simple 34 = .ok (.iload_n 1, 1) := by decide +kernel
theorem dL_simple_35 : decode cL_simple 35 = .ok (.iconst 5, 1) := by decide +kernel
theorem dL_simple_36 : decode cL_simple 36 = .ok (.if_icmp .ge 61, 3) := by decide +kernel
theorem dL_simple_39 : decode cL_simple 39 = .ok (.iload_n 2, 1) := by decide +kernel
theorem dL_simple_40 : decode cL_simple 40 = .ok (.iconst 2, 1) := by decide +kernel
theorem dL_simple_41 : decode cL_simple 41 = .ok (.invokestatic 15, 3) := by decide +kernel
theorem dL_simple_44 : decode cL_simple 44 = .ok (.ifCond .ne 10, 3) := by decide +kernel
theorem dL_simple_47 : decode cL_simple 47 = .ok (.aload_n 0, 1) := by decide +kernel
theorem dL_simple_48 : decode cL_simple 48 = .ok (.bipush 45, 2) := by decide +kernel
theorem dL_simple_50 : decode cL_simple 50 = .ok (.invokevirtual 9, 3) := by decide +kernel
theorem dL_simple_53 : decode cL_simple 53 = .ok (.pop, 1) := by decide +kernel
theorem dL_simple_54 : decode cL_simple 54 = .ok (.aload_n 0, 1) := by decide +kernel
theorem dL_simple_55 : decode cL_simple 55 = .ok (.bipush 49, 2) := by decide +kernel
theorem dL_simple_57 : decode cL_simple 57 = .ok (.iload_n 2, 1) := by decide +kernel
theorem dL_simple_58 : decode cL_simple 58 = .ok (.bipush 9, 2) := by decide +kernel
theorem dL_simple_60 : decode cL_simple 60 = .ok (.invokestatic 15, 3) := by decide +kernel
theorem dL_simple_63 : decode cL_simple 63 = .ok (.iadd, 1) := by decide +kernel
theorem dL_simple_64 : decode cL_simple 64 = .ok (.invokevirtual 9, 3) := by decide +kernel
theorem dL_simple_67 : decode cL_simple 67 = .ok (.pop, 1) := by decide +kernel
theorem dL_simple_68 : decode cL_simple 68 = .ok (.iload_n 1, 1) := by decide +kernel
theorem dL_simple_69 : decode cL_simple 69 = .ok (.iconst 4, 1) := by decide +kernel
theorem dL_simple_70 : decode cL_simple 70 = .ok (.if_icmp .ne 55, 3) := by decide +kernel
theorem dL_simple_73 : decode cL_simple 73 = .ok (.aload_n 0, 1) := by decide +kernel
theorem dL_simple_74 : decode cL_simple 74 = .ok (.bipush 46, 2) := by decide +kernel
theorem dL_simple_76 : decode cL_simple 76 = .ok (.invokevirtual 9, 3) := by decide +kernel
theorem dL_simple_79 : decode cL_simple 79 = .ok (.pop, 1) := by decide +kernel
theorem dL_simple_80 : decode cL_simple 80 = .ok (.aload_n 0, 1) := by decide +kernel
theorem dL_simple_81 : decode cL_simple 81 = .ok (.bipush 48, 2) := by decide +kernel
theorem dL_simple_83 : decode cL_simple 83 = .ok (.iload_n 2, 1) := by decide +kernel
theorem dL_simple_84 : decode cL_simple 84 = .ok (.bipush 10, 2) := by decide +kernel
theorem dL_simple_86 : decode cL_simple 86 = .ok (.invokestatic 15, 3) := by decide +kernel
theorem dL_simple_89 : decode cL_simple 89 = .ok (.iadd, 1) := by decide +kernel
theorem dL_simple_90 : decode cL_simple 90 = .ok (.invokevirtual 9, 3) := by decide +kernel
theorem dL_simple_93 : decode cL_simple 93 = .ok (.pop, 1) := by decide +kernel
theorem dL_simple_94 : decode cL_simple 94 = .ok (.goto 31, 3) := by decide +kernel
theorem dL_simple_97 : decode cL_simple 97 = .ok (.aload_n 0, 1) := by decide +kernel
theorem dL_simple_98 : decode cL_simple 98 = .ok (.bipush 39, 2) := by decide +kernel
theorem dL_simple_100 : decode cL_simple 100 = .ok (.invokevirtual 9, 3) := by decide +kernel
theorem dL_simple_103 : decode cL_simple 103 = .ok (.pop, 1) := by decide +kernel
theorem dL_simple_104 : decode cL_simple 104 = .ok (.aload_n 0, 1) := by decide +kernel
theorem dL_simple_105 : decode cL_simple 105 = .ok (.bipush 97, 2) := by decide +kernel
theorem dL_simple_107 : decode cL_simple 107 = .ok (.iload_n 2, 1) := by decide +kernel
theorem dL_simple_108 : decode cL_simple 108 = .ok (.bipush 26, 2) := by decide +kernel
theorem dL_simple_110 : decode cL_simple 110 = .ok (.invokestatic 15, 3) := by decide +kernel
theorem dL_simple_113 : decode cL_simple 113 = .ok (.iadd, 1) := by decide +kernel
theorem dL_simple_114 : decode cL_simple 114 = .ok (.invokevirtual 9, 3) := by decide +kernel
theorem dL_simple_117 : decode cL_simple 117 = .ok (.pop, 1) := by decide +kernel
theorem dL_simple_118 : decode cL_simple 118 = .ok (.aload_n 0, 1) := by decide +kernel
theorem dL_simple_119 : decode cL_simple 119 = .ok (.bipush 39, 2) := by decide +kernel
theorem dL_simple_121 : decode cL_simple 121 = .ok (.invokevirtual 9, 3) := by decide +kernel
theorem dL_simple_124 : decode cL_simple 124 = .ok (.pop, 1) := by decide +kernel
theorem dL_simple_125 : decode cL_simple 125 = .ok (.return_, 1) := by decide +kernel
theorem dL_types_0 : decode cL_types 0 = .ok (.iconst 1, 1) := by decide +kernel
theorem dL_types_1 : decode cL_types 1 = .ok (.istore_n 3, 1) := by decide +kernel
theorem dL_types_2 : decode cL_types 2 = .ok (.iconst 0, 1) := by decide +kernel
theorem dL_types_3 : decode cL_types 3 = .ok (.istore 4, 2) := by decide +kernel
theorem dL_types_5 : decode cL_types 5 = .ok (.iconst 0, 1) := by decide +kernel
theorem dL_types_6 : decode cL_types 6 = .ok (.istore 5, 2) := by decide +kernel
theorem dL_types_8 : decode cL_types 8 = .ok (.iconst 0, 1) := by decide +kernel
theorem dL_types_9 : decode cL_types 9 = .ok (.istore 6, 2) := by decide +kernel
theorem dL_types_11 : decode cL_types 11 = .ok (.iconst 1, 1) := by decide +kernel
theorem dL_types_12 : decode cL_types 12 = .ok (.istore 7, 2) := by decide +kernel
theorem dL_types_14 : decode cL_types 14 = .ok (.aload_n 0, 1) := by decide +kernel
theorem dL_types_15 : decode cL_types 15 = .ok (.bipush 40, 2) := by decide +kernel
theorem dL_types_17 : decode cL_types 17 = .ok (.invokevirtual 9, 3) := by decide +kernel
theorem dL_types_20 : decode cL_types 20 = .ok (.pop, 1) := by decide +kernel
theorem dL_types_21 : decode cL_types 21 = .ok (.iconst 1, 1) := by decide +kernel
theorem dL_types_22 : decode cL_types 22 = .ok (.aload_n 1, 1) := by decide +kernel
theorem dL_types_23 : decode cL_types 23 = .ok (.iload_n 2, 1) := by decide +kernel
theorem dL_types_24 : decode cL_types 24 = .ok (.invokestatic 21, 3) := by decide +kernel
theorem dL_types_27 : decode cL_types 27 = .ok (.bipush 8, 2) := by decide +kernel
theorem dL_types_29 : decode cL_types 29 = .ok (.invokestatic 15, 3) := by decide +kernel
theorem dL_types_32 : decode cL_types 32 = .ok (.iadd, 1) := by decide +kernel
theorem dL_types_33 : decode cL_types 33 = .ok (.istore 8, 2) := by decide +kernel
theorem dL_types_35 : decode cL_types 35 = .ok (.iconst 0, 1) := by decide +kernel
theorem dL_types_36 : decode cL_types 36 = .ok (.istore 9, 2) := by decide +kernel
theorem dL_types_38 : decode cL_types 38 = .ok (.iload 9, 2) := by decide +kernel
theorem dL_types_40 : decode cL_types 40 = .ok (.iload 8, 2) := by decide +kernel
theorem dL_types_42 : decode cL_types 42 = .ok (.if_icmp .ge 285, 3) := by decide +kernel
theorem dL_types_45 : decode cL_types 45 = .ok (.aload_n 1, 1) := by decide +kernel
theorem dL_types_46 : decode cL_types 46 = .ok (.iload_n 2, 1) := by decide +kernel
theorem dL_types_47 : decode cL_types 47 = .ok (.iconst 1, 1) := by decide +kernel
theorem dL_types_48 : decode cL_types 48 = .ok (.iadd, 1) := by decide +kernel
theorem dL_types_49 : decode cL_types 49 = .ok (.iconst 2, 1) := by decide +kernel
theorem dL_types_50 : decode cL_types 50 = .ok (.iload 9, 2) := by decide +kernel
theorem dL_types_52 : decode cL_types 52 = .ok (.imul, 1) := by decide +kernel
theorem dL_types_53 : decode cL_types 53 = .ok (.iadd, 1) := by decide +kernel
theorem dL_types_54 : decode cL_types 54 = .ok (.invokestatic 21, 3) := by decide +kernel
theorem dL_types_57 : decode cL_types 57 = .ok (.istore 10, 2) := by decide +kernel
theorem dL_types_59 : decode cL_types 59 = .ok (.aload_n 1, 1) := by decide +kernel
theorem dL_types_60 : decode cL_types 60 = .ok (.iload_n 2, 1) := by decide +kernel
theorem dL_types_61 : decode cL_types 61 = .ok (.iconst 2, 1) := by decide +kernel
theorem dL_types_62 : decode cL_types 62 = .ok (.iadd, 1) := by decide +kernel
theorem dL_types_63 : decode cL_types 63 = .ok (.iconst 2, 1) := by decide +kernel
theorem dL_types_64 : decode cL_types 64 = .ok (.iload 9, 2) := by decide +kernel
theorem dL_types_66 : decode cL_types 66 = .ok (.imul, 1) := by decide +kernel
theorem dL_types_67 : decode cL_types 67 = .ok (.iadd, 1) := by decide +kernel
theorem dL_types_68 : decode cL_types 68 = .ok (.invokestatic 21, 3) := by decide +kernel
theorem dL_types_71 : decode cL_types 71 = .ok (.bipush 9, 2) := by decide +kernel
theorem dL_types_73 : decode cL_types 73 = .ok (.invokestatic 15, 3) := by decide +kernel
theorem dL_types_76 : decode cL_types 76 = .ok (.istore 11, 2) := by decide +kernel
theorem dL_types_78 : decode cL_types 78 = .ok (.iconst 1, 1) := by decide +kernel
theorem dL_types_79 : decode cL_types 79 = .ok (.iload_n 3, 1) := by decide +kernel
theorem dL_types_80 : decode cL_types 80 = .ok (.ishl, 1) := by decide +kernel
theorem dL_types_81 : decode cL_types 81 = .ok (.istore 12, 2) := by decide +kernel
theorem dL_types_83 : decode cL_types 83 = .ok (.iload 5, 2) := by decide +kernel
theorem dL_types_85 : decode cL_types 85 = .ok (.iload 12, 2) := by decide +kernel
theorem dL_types_87 : decode cL_types 87 = .ok (.iand, 1) := by decide +kernel
theorem dL_types_88 : decode cL_types 88 = .ok (.ifCond .eq 7, 3) := by decide +kernel
theorem dL_types_91 : decode cL_types 91 = .ok (.iconst 1, 1) := by decide +kernel
theorem dL_types_92 : decode cL_types 92 = .ok (.goto 4, 3) := by decide +kernel
theorem dL_types_95 : decode cL_types 95 = .ok (.iconst 0, 1) := by decide +kernel
theorem dL_types_96 : decode cL_types 96 = .ok (.istore 13, 2) := by decide +kernel
theorem dL_types_98 : decode cL_types 98 = .ok (.iload 10, 2) := by decide +kernel
theorem dL_types_100 : decode cL_types 100 = .ok (.iconst 4, 1) := by decide +kernel
theorem dL_types_101 : decode cL_types 101 = .ok (.invokestatic 15, 3) := by decide +kernel
theorem dL_types_104 : decode cL_types 104 = .ok (.istore 14, 2) := by decide +kernel
theorem dL_types_106 : decode cL_types 106 = .ok (.iconst 1, 1) := by decide +kernel
theorem dL_types_107 : decode cL_types 107 = .ok (.iload 14, 2) := by decide +kernel
theorem dL_types_109 : decode cL_types 109 = .ok (.iconst 4, 1) := by decide +kernel
theorem dL_types_110 : decode cL_types 110 = .ok (.iload_n 3, 1) := by decide +kernel
theorem dL_types_111 : decode cL_types 111 = .ok (.iconst 1, 1) := by decide +kernel
theorem dL_types_112 : decode cL_types 112 = .ok (.isub, 1) := by decide +kernel
theorem dL_types_113 : decode cL_types 113 = .ok (.imul, 1) := by decide +kernel
theorem dL_types_114 : decode cL_types 114 = .ok (.iadd, 1) := by decide +kernel
theorem dL_types_115 : decode cL_types 115 = .ok (.ishl, 1) := by decide +kernel
theorem dL_types_116 : decode cL_types 116 = .ok (.istore 15, 2) := by decide +kernel
theorem dL_types_118 : decode cL_types 118 = .ok (.iload_n 3, 1) := by decide +kernel
theorem dL_types_119 : decode cL_types 119 = .ok (.iconst 1, 1) := by decide +kernel
theorem dL_types_120 : decode cL_types 120 = .ok (.if_icmp .le 35, 3) := by decide +kernel
theorem dL_types_123 : decode cL_types 123 = .ok (.iload 10, 2) := by decide +kernel
theorem dL_types_125 : decode cL_types 125 = .ok (.iconst 5, 1) := by decide +kernel
theorem dL_types_126 : decode cL_types 126 = .ok (.invokestatic 15, 3) := by decide +kernel
theorem dL_types_129 : decode cL_types 129 = .ok (.ifCond .ne 26, 3) := by decide +kernel
theorem dL_types_132 : decode cL_types 132 = .ok (.aload_n 0, 1) := by decide +kernel
theorem dL_types_133 : decode cL_types 133 = .ok (.iload 13, 2) := by decide +kernel
theorem dL_types_135 : decode cL_types 135 = .ok (.ifCond .eq 8, 3) := by decide +kernel
theorem dL_types_138 : decode cL_types 138 = .ok (.bipush 93, 2) := by decide +kernel
theorem dL_types_140 : decode cL_types 140 = .ok (.goto 5, 3) := by decide +kernel
theorem dL_types_143 : decode cL_types 143 = .ok (.bipush 41, 2) := by decide +kernel
theorem dL_types_145 : decode cL_types 145 = .ok (.invokevirtual 9, 3) := by decide +kernel
theorem dL_types_148 : decode cL_types 148 = .ok (.pop, 1) := by decide +kernel
theorem dL_types_149 : decode cL_types 149 = .ok (.iinc 3 (-1), 3) := by decide +kernel
theorem dL_types_152 : decode cL_types 152 = .ok (.goto 169, 3) := by decide +kernel
theorem dL_types_155 : decode cL_types 155 = .ok (.iload 13, 2) := by decide +kernel
theorem dL_types_157 : decode cL_types 157 = .ok (.ifCond .ne 11, 3) := by decide +kernel
theorem dL_types_160 : decode cL_types 160 = .ok (.iload 4, 2) := by decide +kernel
theorem dL_types_162 : decode cL_types 162 = .ok (.iload 15, 2) := by decide +kernel
theorem dL_types_164 : decode cL_types 164 = .ok (.iand, 1) := by decide +kernel
theorem dL_types_165 : decode cL_types 165 = .ok (.ifCond .ne 156, 3) := by decide +kernel
theorem dL_types_168 : decode cL_types 168 = .ok (.iload 13, 2) := by decide +kernel
theorem dL_types_170 : decode cL_types 170 = .ok (.ifCond .eq 18, 3) := by decide +kernel
theorem dL_types_173 : decode cL_types 173 = .ok (.iload 6, 2) := by decide +kernel
theorem dL_types_175 : decode cL_types 175 = .ok (.iload 12, 2) := by decide +kernel
theorem dL_types_177 : decode cL_types 177 = .ok (.iand, 1) := by decide +kernel
theorem dL_types_178 : decode cL_types 178 = .ok (.ifCond .eq 10, 3) := by decide +kernel
theorem dL_types_181 : decode cL_types 181 = .ok (.aload_n 0, 1) := by decide +kernel
theorem dL_types_182 : decode cL_types 182 = .ok (.bipush 44, 2) := by decide +kernel
theorem dL_types_184 : decode cL_types 184 = .ok (.invokevirtual 9, 3) := by decide +kernel
theorem dL_types_187 : decode cL_types 187 = .ok (.pop, 1) := by decide +kernel
theorem dL_types_188 : decode cL_types 188 = .ok (.iload 13, 2) := by decide +kernel
theorem dL_types_190 : decode cL_types 190 = .ok (.ifCond .ne 20, 3) := by decide +kernel
theorem dL_types_193 : decode cL_types 193 = .ok (.aload_n 0, 1) := by decide +kernel
theorem dL_types_194 : decode cL_types 194 = .ok (.bipush 65, 2) := by decide +kernel
theorem dL_types_196 : decode cL_types 196 = .ok (.iload 14, 2) := by decide +kernel
theorem dL_types_198 : decode cL_types 198 = .ok (.iadd, 1) := by decide +kernel
theorem dL_types_199 : decode cL_types 199 = .ok (.invokevirtual 9, 3) := by decide +kernel
theorem dL_types_202 : decode cL_types 202 = .ok (.pop, 1) := by decide +kernel
theorem dL_types_203 : decode cL_types 203 = .ok (.iload 4, 2) := by decide +kernel
theorem dL_types_205 : decode cL_types 205 = .ok (.iload 15, 2) := by decide +kernel
theorem dL_types_207 : decode cL_types 207 = .ok (.ior, 1) := by decide +kernel
theorem dL_types_208 : decode cL_types 208 = .ok (.istore 4, 2) := by decide +kernel
theorem dL_types_210 : decode cL_types 210 = .ok (.iload 6, 2) := by decide +kernel
theorem dL_types_212 : decode cL_types 212 = .ok (.iload 12, 2) := by decide +kernel
theorem dL_types_214 : decode cL_types 214 = .ok (.ior, 1) := by decide +kernel
theorem dL_types_215 : decode cL_types 215 = .ok (.istore 6, 2) := by decide +kernel
theorem dL_types_217 : decode cL_types 217 = .ok (.iinc 7 1, 3) := by decide +kernel
theorem dL_types_220 : decode cL_types 220 = .ok (.iload 11, 2) := by decide +kernel
theorem dL_types_222 : decode cL_types 222 = .ok (.bipush 6, 2) := by decide +kernel
theorem dL_types_224 : decode cL_types 224 = .ok (.if_icmp .le 84, 3) := by decide +kernel
theorem dL_types_227 : decode cL_types 227 = .ok (.iload_n 3, 1) := by decide +kernel
theorem dL_types_228 : decode cL_types 228 = .ok (.iconst 4, 1) := by decide +kernel
theorem dL_types_229 : decode cL_types 229 = .ok (.if_icmp .ge 79, 3) := by decide +kernel
theorem dL_types_232 : decode cL_types 232 = .ok (.aload_n 0, 1) := by decide +kernel
theorem dL_types_233 : decode cL_types 233 = .ok (.iload 11, 2) := by decide +kernel
theorem dL_types_235 : decode cL_types 235 = .ok (.bipush 7, 2) := by decide +kernel
theorem dL_types_237 : decode cL_types 237 = .ok (.if_icmp .ne 8, 3) := by decide +kernel
theorem dL_types_240 : decode cL_types 240 = .ok (.bipush 91, 2) := by decide +kernel
theorem dL_types_242 : decode cL_types 242 = .ok (.goto 5, 3) := by decide +kernel
theorem dL_types_245 : decode cL_types 245 = .ok (.bipush 40, 2) := by decide +kernel
theorem dL_types_247 : decode cL_types 247 = .ok (.invokevirtual 9, 3) := by decide +kernel
theorem dL_types_250 : decode cL_types 250 = .ok (.pop, 1) := by decide +kernel
theorem dL_types_251 : decode cL_types 251 = .ok (.iinc 3 1, 3) := by decide +kernel
theorem dL_types_254 : decode cL_types 254 = .ok (.iload 11, 2) := by decide +kernel
theorem dL_types_256 : decode cL_types 256 = .ok (.bipush 7, 2) := by decide +kernel
theorem dL_types_258 : decode cL_types 258 = .ok (.if_icmp .ne 12, 3) := by decide +kernel
theorem dL_types_261 : decode cL_types 261 = .ok (.iload 5, 2) := by decide +kernel
theorem dL_types_263 : decode cL_types 263 = .ok (.iconst 1, 1) := by decide +kernel
theorem dL_types_264 : decode cL_types 264 = .ok (.iload_n 3, 1) := by decide +kernel
theorem dL_types_265 : decode cL_types 265 = .ok (.ishl, 1) := by decide +kernel
theorem dL_types_266 : decode cL_types 266 = .ok (.ior, 1) := by decide +kernel
theorem dL_types_267 : decode cL_types 267 = .ok (.goto 11, 3) := by decide +kernel
theorem dL_types_270 : decode cL_types 270 = .ok (.iload 5, 2) := by decide +kernel
theorem dL_types_272 : decode cL_types 272 = .ok (.iconst 1, 1) := by decide +kernel
theorem dL_types_273 : decode cL_types 273 = .ok (.iload_n 3, 1) := by decide +kernel
theorem dL_types_274 : decode cL_types 274 = .ok (.ishl, 1) := by decide +kernel
theorem dL_types_275 : decode cL_types 275 = .ok (.iconst (-1), 1) := by decide +kernel
theorem dL_types_276 : decode cL_types 276 = .ok (.ixor, 1) := by decide +kernel
theorem dL_types_277 : decode cL_types 277 = .ok (.iand, 1) := by decide +kernel
theorem dL_types_278 : decode cL_types 278 = .ok (.istore 5, 2) := by decide +kernel
theorem dL_types_280 : decode cL_types 280 = .ok (.iload 6, 2) := by decide +kernel
theorem dL_types_282 : decode cL_types 282 = .ok (.iconst 1, 1) := by decide +kernel
theorem dL_types_283 : decode cL_types 283 = .ok (.iload_n 3, 1) := by decide +kernel
theorem dL_types_284 : decode cL_types 284 = .ok (.ishl, 1) := by decide +kernel
theorem dL_types_285 : decode cL_types 285 = .ok (.iconst (-1), 1) := by decide +kernel
theorem dL_types_286 : decode cL_types 286 = .ok (.ixor, 1) := by decide +kernel
theorem dL_types_287 : decode cL_types 287 = .ok (.iand, 1) := by decide +kernel
theorem dL_types_288 : decode cL_types 288 = .ok (.istore 6, 2) := by decide +kernel
theorem dL_types_290 : decode cL_types 290 = .ok (.iload 4, 2) := by decide +kernel
theorem dL_types_292 : decode cL_types 292 = .ok (.bipush 15, 2) := by decide +kernel
theorem dL_types_294 : decode cL_types 294 = .ok (.iconst 4, 1) := by decide +kernel
theorem dL_types_295 : decode cL_types 295 = .ok (.iload_n 3, 1) := by decide +kernel
theorem dL_types_296 : decode cL_types 296 = .ok (.iconst 1, 1) := by decide +kernel
theorem dL_types_297 : decode cL_types 297 = .ok (.isub, 1) := by decide +kernel
theorem dL_types_298 : decode cL_types 298 = .ok (.imul, 1) := by decide +kernel
theorem dL_types_299 : decode cL_types 299 = .ok (.ishl, 1) := by decide +kernel
theorem dL_types_300 : decode cL_types 300 = .ok (.iconst (-1), 1) := by decide +kernel
theorem dL_types_301 : decode cL_types 301 = .ok (.ixor, 1) := by decide +kernel
theorem dL_types_302 : decode cL_types 302 = .ok (.iand, 1) := by decide +kernel
theorem dL_types_303 : decode cL_types 303 = .ok (.istore 4, 2) := by decide +kernel
theorem dL_types_305 : decode cL_types 305 = .ok (.goto 16, 3) := by decide +kernel
theorem dL_types_308 : decode cL_types 308 = .ok (.aload_n 0, 1) := by decide +kernel
theorem dL_types_309 : decode cL_types 309 = .ok (.iload 11, 2) := by decide +kernel
theorem dL_types_311 : decode cL_types 311 = .ok (.bipush 6, 2) := by decide +kernel
theorem dL_types_313 : decode cL_types 313 = .ok (.invokestatic 15, 3) := by decide +kernel
theorem dL_types_316 : decode cL_types 316 = .ok (.iload 10, 2) := by decide +kernel
theorem dL_types_318 : decode cL_types 318 = .ok (.invokestatic 25, 3) := by decide +kernel
theorem dL_types_321 : decode cL_types 321 = .ok (.iinc 9 1, 3) := by decide +kernel
theorem dL_types_324 : decode cL_types 324 = .ok (.goto (-286), 3) := by decide +kernel
theorem dL_types_327 : decode cL_types 327 = .ok (.iload_n 3, 1) := by decide +kernel
theorem dL_types_328 : decode cL_types 328 = .ok (.ifCond .le 30, 3) := by decide +kernel
theorem dL_types_331 : decode cL_types 331 = .ok (.aload_n 0, 1) := by decide +kernel
theorem dL_types_332 : decode cL_types 332 = .ok (.iload 5, 2) := by decide +kernel
theorem dL_types_334 : decode cL_types 334 = .ok (.iconst 1, 1) := by decide +kernel
theorem dL_types_335 : decode cL_types 335 = .ok (.iload_n 3, 1) := by decide +kernel
theorem dL_types_336 : decode cL_types 336 = .ok (.ishl, 1) := by decide +kernel
theorem dL_types_337 : decode cL_types 337 = .ok (.iand, 1) := by decide +kernel
theorem dL_types_338 : decode cL_types 338 = .ok (.ifCond .eq 8, 3) := by decide +kernel
theorem dL_types_341 : decode cL_types 341 = .ok (.bipush 93, 2) := by decide +kernel
theorem dL_types_343 : decode cL_types 343 = .ok (.goto 5, 3) := by decide +kernel
theorem dL_types_346 : decode cL_types 346 = .ok (.bipush 41, 2) := by decide +kernel
theorem dL_types_348 : decode cL_types 348 = .ok (.invokevirtual 9, 3) := by decide +kernel
theorem dL_types_351 : decode cL_types 351 = .ok (.pop, 1) := by decide +kernel
theorem dL_types_352 : decode cL_types 352 = .ok (.iinc 3 (-1), 3) := by decide +kernel
theorem dL_types_355 : decode cL_types 355 = .ok (.goto (-28), 3) := by decide +kernel
theorem dL_types_358 : decode cL_types 358 = .ok (.iload 7, 2) := by decide +kernel
theorem dL_types_360 : decode cL_types 360 = .ok (.ireturn, 1) := by decide +kernel
theorem dL_learn_0 : decode cL_learn 0 = .ok (.aload_n 0, 1) := by decide +kernel
theorem dL_learn_1 : decode cL_learn 1 = .ok (.iload_n 1, 1) := by decide +kernel
theorem dL_learn_2 : decode cL_learn 2 = .ok (.invokevirtual 29, 3) := by decide +kernel
theorem dL_learn_5 : decode cL_learn 5 = .ok (.ireturn, 1) := by decide +kernel
theorem dL_learn_6 : decode cL_learn 6 = .ok (.astore_n 2, 1) := by decide +kernel
theorem dL_learn_7 : decode cL_learn 7 = .ok (.bipush (-3), 2) := by decide +kernel
theorem dL_learn_9 : decode cL_learn 9 = .ok (.ireturn, 1) := by decide +kernel
theorem dL_join_0 : decode cL_join 0 = .ok (.aload_n 0, 1) := by decide +kernel
theorem dL_join_1 : decode cL_join 1 = .ok (.iload_n 1, 1) := by decide +kernel
theorem dL_join_2 : decode cL_join 2 = .ok (.invokevirtual 34, 3) := by decide +kernel
theorem dL_join_5 : decode cL_join 5 = .ok (.ireturn, 1) := by decide +kernel
theorem dL_join_6 : decode cL_join 6 = .ok (.astore_n 2, 1) := by decide +kernel
theorem dL_join_7 : decode cL_join 7 = .ok (.bipush (-3), 2) := by decide +kernel
theorem dL_join_9 : decode cL_join 9 = .ok (.ireturn, 1) := by decide +kernel
theorem dL_undo_0 : decode cL_undo 0 = .ok (.aload_n 0, 1) := by decide +kernel
theorem dL_undo_1 : decode cL_undo 1 = .ok (.invokevirtual 37, 3) := by decide +kernel
theorem dL_undo_4 : decode cL_undo 4 = .ok (.ireturn, 1) := by decide +kernel
theorem dL_undo_5 : decode cL_undo 5 = .ok (.astore_n 1, 1) := by decide +kernel
theorem dL_undo_6 : decode cL_undo 6 = .ok (.bipush (-3), 2) := by decide +kernel
theorem dL_undo_8 : decode cL_undo 8 = .ok (.ireturn, 1) := by decide +kernel
theorem dL_node_0 : decode cL_node 0 = .ok (.aload_n 0, 1) := by decide +kernel
theorem dL_node_1 : decode cL_node 1 = .ok (.iload_n 1, 1) := by decide +kernel
theorem dL_node_2 : decode cL_node 2 = .ok (.iload_n 2, 1) := by decide +kernel
theorem dL_node_3 : decode cL_node 3 = .ok (.iconst 0, 1) := by decide +kernel
theorem dL_node_4 : decode cL_node 4 = .ok (.invokevirtual 41, 3) := by decide +kernel
theorem dL_node_7 : decode cL_node 7 = .ok (.istore_n 3, 1) := by decide +kernel
theorem dL_node_8 : decode cL_node 8 = .ok (.aload_n 0, 1) := by decide +kernel
theorem dL_node_9 : decode cL_node 9 = .ok (.iload_n 1, 1) := by decide +kernel
theorem dL_node_10 : decode cL_node 10 = .ok (.iload_n 2, 1) := by decide +kernel
theorem dL_node_11 : decode cL_node 11 = .ok (.iconst 2, 1) := by decide +kernel
theorem dL_node_12 : decode cL_node 12 = .ok (.invokevirtual 41, 3) := by decide +kernel
theorem dL_node_15 : decode cL_node 15 = .ok (.istore 4, 2) := by decide +kernel
theorem dL_node_17 : decode cL_node 17 = .ok (.aload_n 0, 1) := by decide +kernel
theorem dL_node_18 : decode cL_node 18 = .ok (.iload_n 1, 1) := by decide +kernel
theorem dL_node_19 : decode cL_node 19 = .ok (.iload_n 2, 1) := by decide +kernel
theorem dL_node_20 : decode cL_node 20 = .ok (.iconst 1, 1) := by decide +kernel
theorem dL_node_21 : decode cL_node 21 = .ok (.invokevirtual 41, 3) := by decide +kernel
theorem dL_node_24 : decode cL_node 24 = .ok (.istore 5, 2) := by decide +kernel
theorem dL_node_26 : decode cL_node 26 = .ok (.iload 4, 2) := by decide +kernel
theorem dL_node_28 : decode cL_node 28 = .ok (.iload_n 2, 1) := by decide +kernel
theorem dL_node_29 : decode cL_node 29 = .ok (.if_icmp .ge 121, 3) := by decide +kernel
theorem dL_node_32 : decode cL_node 32 = .ok (.iload 4, 2) := by decide +kernel
theorem dL_node_34 : decode cL_node 34 = .ok (.iconst (-1), 1) := by decide +kernel
theorem dL_node_35 : decode cL_node 35 = .ok (.if_icmp .ne 7, 3) := by decide +kernel
theorem dL_node_38 : decode cL_node 38 = .ok (.iconst 1, 1) := by decide +kernel
theorem dL_node_39 : decode cL_node 39 = .ok (.goto 4, 3) := by decide +kernel
theorem dL_node_42 : decode cL_node 42 = .ok (.iconst 0, 1) := by decide +kernel
theorem dL_node_43 : decode cL_node 43 = .ok (.iload_n 2, 1) := by decide +kernel
theorem dL_node_44 : decode cL_node 44 = .ok (.ifCond .ne 7, 3) := by decide +kernel
theorem dL_node_47 : decode cL_node 47 = .ok (.iconst 1, 1) := by decide +kernel
theorem dL_node_48 : decode cL_node 48 = .ok (.goto 4, 3) := by decide +kernel
theorem dL_node_51 : decode cL_node 51 = .ok (.iconst 0, 1) := by decide +kernel
theorem dL_node_52 : decode cL_node 52 = .ok (.if_icmp .ne 98, 3) := by decide +kernel
theorem dL_node_55 : decode cL_node 55 = .ok (.iload 5, 2) := by decide +kernel
theorem dL_node_57 : decode cL_node 57 = .ok (.iconst (-1), 1) := by decide +kernel
theorem dL_node_58 : decode cL_node 58 = .ok (.if_icmp .ne 7, 3) := by decide +kernel
theorem dL_node_61 : decode cL_node 61 = .ok (.iconst 1, 1) := by decide +kernel
theorem dL_node_62 : decode cL_node 62 = .ok (.goto 4, 3) := by decide +kernel
theorem dL_node_65 : decode cL_node 65 = .ok (.iconst 0, 1) := by decide +kernel
theorem dL_node_66 : decode cL_node 66 = .ok (.iload_n 2, 1) := by decide +kernel
theorem dL_node_67 : decode cL_node 67 = .ok (.ifCond .ne 7, 3) := by decide +kernel
theorem dL_node_70 : decode cL_node 70 = .ok (.iconst 1, 1) := by decide +kernel
theorem dL_node_71 : decode cL_node 71 = .ok (.goto 4, 3) := by decide +kernel
theorem dL_node_74 : decode cL_node 74 = .ok (.iconst 0, 1) := by decide +kernel
theorem dL_node_75 : decode cL_node 75 = .ok (.if_icmp .ne 75, 3) := by decide +kernel
theorem dL_node_78 : decode cL_node 78 = .ok (.iload_n 3, 1) := by decide +kernel
theorem dL_node_79 : decode cL_node 79 = .ok (.ifCond .lt 71, 3) := by decide +kernel
theorem dL_node_82 : decode cL_node 82 = .ok (.iload_n 3, 1) := by decide +kernel
theorem dL_node_83 : decode cL_node 83 = .ok (.bipush 8, 2) := by decide +kernel
theorem dL_node_85 : decode cL_node 85 = .ok (.if_icmp .ge 65, 3) := by decide +kernel
theorem dL_node_88 : decode cL_node 88 = .ok (.aload_n 0, 1) := by decide +kernel
theorem dL_node_89 : decode cL_node 89 = .ok (.iload_n 1, 1) := by decide +kernel
theorem dL_node_90 : decode cL_node 90 = .ok (.iload_n 2, 1) := by decide +kernel
theorem dL_node_91 : decode cL_node 91 = .ok (.bipush 8, 2) := by decide +kernel
theorem dL_node_93 : decode cL_node 93 = .ok (.invokevirtual 41, 3) := by decide +kernel
theorem dL_node_96 : decode cL_node 96 = .ok (.iconst 1, 1) := by decide +kernel
theorem dL_node_97 : decode cL_node 97 = .ok (.if_icmp .lt 53, 3) := by decide +kernel
theorem dL_node_100 : decode cL_node 100 = .ok (.aload_n 0, 1) := by decide +kernel
theorem dL_node_101 : decode cL_node 101 = .ok (.iload_n 1, 1) := by decide +kernel
theorem dL_node_102 : decode cL_node 102 = .ok (.iload_n 2, 1) := by decide +kernel
theorem dL_node_103 : decode cL_node 103 = .ok (.bipush 8, 2) := by decide +kernel
theorem dL_node_105 : decode cL_node 105 = .ok (.invokevirtual 41, 3) := by decide +kernel
theorem dL_node_108 : decode cL_node 108 = .ok (.aload_n 0, 1) := by decide +kernel
theorem dL_node_109 : decode cL_node 109 = .ok (.iload_n 1, 1) := by decide +kernel
theorem dL_node_110 : decode cL_node 110 = .ok (.iconst 0, 1) := by decide +kernel
theorem dL_node_111 : decode cL_node 111 = .ok (.invokevirtual 45, 3) := by decide +kernel
theorem dL_node_114 : decode cL_node 114 = .ok (.if_icmp .gt 36, 3) := by decide +kernel
theorem dL_node_117 : decode cL_node 117 = .ok (.aload_n 0, 1) := by decide +kernel
theorem dL_node_118 : decode cL_node 118 = .ok (.iload_n 1, 1) := by decide +kernel
theorem dL_node_119 : decode cL_node 119 = .ok (.iload_n 2, 1) := by decide +kernel
theorem dL_node_120 : decode cL_node 120 = .ok (.iconst 4, 1) := by decide +kernel
theorem dL_node_121 : decode cL_node 121 = .ok (.invokevirtual 41, 3) := by decide +kernel
theorem dL_node_124 : decode cL_node 124 = .ok (.iconst 1, 1) := by decide +kernel
theorem dL_node_125 : decode cL_node 125 = .ok (.if_icmp .lt 25, 3) := by decide +kernel
theorem dL_node_128 : decode cL_node 128 = .ok (.aload_n 0, 1) := by decide +kernel
theorem dL_node_129 : decode cL_node 129 = .ok (.iload_n 1, 1) := by decide +kernel
theorem dL_node_130 : decode cL_node 130 = .ok (.iload_n 2, 1) := by decide +kernel
theorem dL_node_131 : decode cL_node 131 = .ok (.bipush 6, 2) := by decide +kernel
theorem dL_node_133 : decode cL_node 133 = .ok (.invokevirtual 41, 3) := by decide +kernel
theorem dL_node_136 : decode cL_node 136 = .ok (.aload_n 0, 1) := by decide +kernel
theorem dL_node_137 : decode cL_node 137 = .ok (.iload_n 1, 1) := by decide +kernel
theorem dL_node_138 : decode cL_node 138 = .ok (.iload_n 2, 1) := by decide +kernel
theorem dL_node_139 : decode cL_node 139 = .ok (.iconst 4, 1) := by decide +kernel
theorem dL_node_140 : decode cL_node 140 = .ok (.invokevirtual 41, 3) := by decide +kernel
theorem dL_node_143 : decode cL_node 143 = .ok (.if_icmp .gt 7, 3) := by decide +kernel
theorem dL_node_146 : decode cL_node 146 = .ok (.iconst 1, 1) := by decide +kernel
theorem dL_node_147 : decode cL_node 147 = .ok (.goto 4, 3) := by decide +kernel
theorem dL_node_150 : decode cL_node 150 = .ok (.iconst 0, 1) := by decide +kernel
theorem dL_node_151 : decode cL_node 151 = .ok (.istore 6, 2) := by decide +kernel
theorem dL_node_153 : decode cL_node 153 = .ok (.iload 6, 2) := by decide +kernel
theorem dL_node_155 : decode cL_node 155 = .ok (.ifCond .eq 178, 3) := by decide +kernel
theorem dL_node_158 : decode cL_node 158 = .ok (.iload_n 2, 1) := by decide +kernel
theorem dL_node_159 : decode cL_node 159 = .ok (.ifCond .le 174, 3) := by decide +kernel
theorem dL_node_162 : decode cL_node 162 = .ok (.iload 5, 2) := by decide +kernel
theorem dL_node_164 : decode cL_node 164 = .ok (.bipush 8, 2) := by decide +kernel
theorem dL_node_166 : decode cL_node 166 = .ok (.if_icmp .ge 26, 3) := by decide +kernel
theorem dL_node_169 : decode cL_node 169 = .ok (.aload_n 0, 1) := by decide +kernel
theorem dL_node_170 : decode cL_node 170 = .ok (.iload_n 1, 1) := by decide +kernel
theorem dL_node_171 : decode cL_node 171 = .ok (.iload_n 2, 1) := by decide +kernel
theorem dL_node_172 : decode cL_node 172 = .ok (.iconst 4, 1) := by decide +kernel
theorem dL_node_173 : decode cL_node 173 = .ok (.invokevirtual 41, 3) := by decide +kernel
theorem dL_node_176 : decode cL_node 176 = .ok (.aload_n 0, 1) := by decide +kernel
theorem dL_node_177 : decode cL_node 177 = .ok (.iload_n 1, 1) := by decide +kernel
theorem dL_node_178 : decode cL_node 178 = .ok (.iload 4, 2) := by decide +kernel
theorem dL_node_180 : decode cL_node 180 = .ok (.bipush 6, 2) := by decide +kernel
theorem dL_node_182 : decode cL_node 182 = .ok (.invokevirtual 41, 3) := by decide +kernel
theorem dL_node_185 : decode cL_node 185 = .ok (.if_icmp .ge 7, 3) := by decide +kernel
theorem dL_node_188 : decode cL_node 188 = .ok (.iconst 1, 1) := by decide +kernel
theorem dL_node_189 : decode cL_node 189 = .ok (.goto 4, 3) := by decide +kernel
theorem dL_node_192 : decode cL_node 192 = .ok (.iconst 0, 1) := by decide +kernel
theorem dL_node_193 : decode cL_node 193 = .ok (.istore 7, 2) := by decide +kernel
theorem dL_node_195 : decode cL_node 195 = .ok (.aload_n 0, 1) := by decide +kernel
theorem dL_node_196 : decode cL_node 196 = .ok (.iload_n 1, 1) := by decide +kernel
theorem dL_node_197 : decode cL_node 197 = .ok (.iload 4, 2) := by decide +kernel
theorem dL_node_199 : decode cL_node 199 = .ok (.iload 5, 2) := by decide +kernel
theorem dL_node_201 : decode cL_node 201 = .ok (.invokevirtual 48, 3) := by decide +kernel
theorem dL_node_204 : decode cL_node 204 = .ok (.iload_n 2, 1) := by decide +kernel
theorem dL_node_205 : decode cL_node 205 = .ok (.if_icmp .ne 74, 3) := by decide +kernel
theorem dL_node_208 : decode cL_node 208 = .ok (.aload_n 0, 1) := by decide +kernel
theorem dL_node_209 : decode cL_node 209 = .ok (.iload_n 1, 1) := by decide +kernel
theorem dL_node_210 : decode cL_node 210 = .ok (.iload_n 2, 1) := by decide +kernel
theorem dL_node_211 : decode cL_node 211 = .ok (.iconst 3, 1) := by decide +kernel
theorem dL_node_212 : decode cL_node 212 = .ok (.invokevirtual 41, 3) := by decide +kernel
theorem dL_node_215 : decode cL_node 215 = .ok (.aload_n 0, 1) := by decide +kernel
theorem dL_node_216 : decode cL_node 216 = .ok (.iload_n 1, 1) := by decide +kernel
theorem dL_node_217 : decode cL_node 217 = .ok (.iload 4, 2) := by decide +kernel
theorem dL_node_219 : decode cL_node 219 = .ok (.iconst 3, 1) := by decide +kernel
theorem dL_node_220 : decode cL_node 220 = .ok (.invokevirtual 41, 3) := by decide +kernel
theorem dL_node_223 : decode cL_node 223 = .ok (.iconst 1, 1) := by decide +kernel
theorem dL_node_224 : decode cL_node 224 = .ok (.iadd, 1) := by decide +kernel
theorem dL_node_225 : decode cL_node 225 = .ok (.if_icmp .ne 54, 3) := by decide +kernel
theorem dL_node_228 : decode cL_node 228 = .ok (.aload_n 0, 1) := by decide +kernel
theorem dL_node_229 : decode cL_node 229 = .ok (.iload_n 1, 1) := by decide +kernel
theorem dL_node_230 : decode cL_node 230 = .ok (.iload_n 2, 1) := by decide +kernel
theorem dL_node_231 : decode cL_node 231 = .ok (.bipush 7, 2) := by decide +kernel
theorem dL_node_233 : decode cL_node 233 = .ok (.invokevirtual 41, 3) := by decide +kernel
theorem dL_node_236 : decode cL_node 236 = .ok (.iload 7, 2) := by decide +kernel
theorem dL_node_238 : decode cL_node 238 = .ok (.ifCond .eq 7, 3) := by decide +kernel
theorem dL_node_241 : decode cL_node 241 = .ok (.iconst 1, 1) := by decide +kernel
theorem dL_node_242 : decode cL_node 242 = .ok (.goto 4, 3) := by decide +kernel
theorem dL_node_245 : decode cL_node 245 = .ok (.iconst 0, 1) := by decide +kernel
theorem dL_node_246 : decode cL_node 246 = .ok (.if_icmp .ne 33, 3) := by decide +kernel
theorem dL_node_249 : decode cL_node 249 = .ok (.iload 5, 2) := by decide +kernel
theorem dL_node_251 : decode cL_node 251 = .ok (.bipush 8, 2) := by decide +kernel
theorem dL_node_253 : decode cL_node 253 = .ok (.if_icmp .eq 22, 3) := by decide +kernel
theorem dL_node_256 : decode cL_node 256 = .ok (.aload_n 0, 1) := by decide +kernel
theorem dL_node_257 : decode cL_node 257 = .ok (.iload_n 1, 1) := by decide +kernel
theorem dL_node_258 : decode cL_node 258 = .ok (.iload_n 2, 1) := by decide +kernel
theorem dL_node_259 : decode cL_node 259 = .ok (.iconst 4, 1) := by decide +kernel
theorem dL_node_260 : decode cL_node 260 = .ok (.invokevirtual 41, 3) := by decide +kernel
theorem dL_node_263 : decode cL_node 263 = .ok (.aload_n 0, 1) := by decide +kernel
theorem dL_node_264 : decode cL_node 264 = .ok (.iload_n 1, 1) := by decide +kernel
theorem dL_node_265 : decode cL_node 265 = .ok (.iload 4, 2) := by decide +kernel
theorem dL_node_267 : decode cL_node 267 = .ok (.bipush 6, 2) := by decide +kernel
theorem dL_node_269 : decode cL_node 269 = .ok (.invokevirtual 41, 3) := by decide +kernel
theorem dL_node_272 : decode cL_node 272 = .ok (.if_icmp .gt 7, 3) := by decide +kernel
theorem dL_node_275 : decode cL_node 275 = .ok (.iconst 1, 1) := by decide +kernel
theorem dL_node_276 : decode cL_node 276 = .ok (.goto 4, 3) := by decide +kernel
theorem dL_node_279 : decode cL_node 279 = .ok (.iconst 0, 1) := by decide +kernel
theorem dL_node_280 : decode cL_node 280 = .ok (.istore 6, 2) := by decide +kernel
theorem dL_node_282 : decode cL_node 282 = .ok (.iload 6, 2) := by decide +kernel
theorem dL_node_284 : decode cL_node 284 = .ok (.ifCond .eq 46, 3) := by decide +kernel
theorem dL_node_287 : decode cL_node 287 = .ok (.aload_n 0, 1) := by decide +kernel
theorem dL_node_288 : decode cL_node 288 = .ok (.iload_n 1, 1) := by decide +kernel
theorem dL_node_289 : decode cL_node 289 = .ok (.iload 4, 2) := by decide +kernel
theorem dL_node_291 : decode cL_node 291 = .ok (.iconst 0, 1) := by decide +kernel
theorem dL_node_292 : decode cL_node 292 = .ok (.invokevirtual 41, 3) := by decide +kernel
theorem dL_node_295 : decode cL_node 295 = .ok (.bipush 6, 2) := by decide +kernel
theorem dL_node_297 : decode cL_node 297 = .ok (.if_icmp .ne 10, 3) := by decide +kernel
theorem dL_node_300 : decode cL_node 300 = .ok (.iload 5, 2) := by decide +kernel
theorem dL_node_302 : decode cL_node 302 = .ok (.bipush 8, 2) := by decide +kernel
theorem dL_node_304 : decode cL_node 304 = .ok (.if_icmp .lt 22, 3) := by decide +kernel
theorem dL_node_307 : decode cL_node 307 = .ok (.aload_n 0, 1) := by decide +kernel
theorem dL_node_308 : decode cL_node 308 = .ok (.iload_n 1, 1) := by decide +kernel
theorem dL_node_309 : decode cL_node 309 = .ok (.iload 4, 2) := by decide +kernel
theorem dL_node_311 : decode cL_node 311 = .ok (.iconst 0, 1) := by decide +kernel
theorem dL_node_312 : decode cL_node 312 = .ok (.invokevirtual 41, 3) := by decide +kernel
theorem dL_node_315 : decode cL_node 315 = .ok (.iconst 5, 1) := by decide +kernel
theorem dL_node_316 : decode cL_node 316 = .ok (.if_icmp .ne 14, 3) := by decide +kernel
theorem dL_node_319 : decode cL_node 319 = .ok (.iload 5, 2) := by decide +kernel
theorem dL_node_321 : decode cL_node 321 = .ok (.bipush 8, 2) := by decide +kernel
theorem dL_node_323 : decode cL_node 323 = .ok (.if_icmp .ne 7, 3) := by decide +kernel
theorem dL_node_326 : decode cL_node 326 = .ok (.iconst 1, 1) := by decide +kernel
theorem dL_node_327 : decode cL_node 327 = .ok (.goto 4, 3) := by decide +kernel
theorem dL_node_330 : decode cL_node 330 = .ok (.iconst 0, 1) := by decide +kernel
theorem dL_node_331 : decode cL_node 331 = .ok (.istore 6, 2) := by decide +kernel
theorem dL_node_333 : decode cL_node 333 = .ok (.iconst 0, 1) := by decide +kernel
theorem dL_node_334 : decode cL_node 334 = .ok (.istore 7, 2) := by decide +kernel
theorem dL_node_336 : decode cL_node 336 = .ok (.iload_n 2, 1) := by decide +kernel
theorem dL_node_337 : decode cL_node 337 = .ok (.istore 8, 2) := by decide +kernel
theorem dL_node_339 : decode cL_node 339 = .ok (.iconst 0, 1) := by decide +kernel
theorem dL_node_340 : decode cL_node 340 = .ok (.istore 9, 2) := by decide +kernel
theorem dL_node_342 : decode cL_node 342 = .ok (.iload 9, 2) := by decide +kernel
theorem dL_node_344 : decode cL_node 344 = .ok (.bipush 9, 2) := by decide +kernel
theorem dL_node_346 : decode cL_node 346 = .ok (.if_icmp .ge 87, 3) := by decide +kernel
theorem dL_node_349 : decode cL_node 349 = .ok (.iload 6, 2) := by decide +kernel
theorem dL_node_351 : decode cL_node 351 = .ok (.ifCond .eq 82, 3) := by decide +kernel
theorem dL_node_354 : decode cL_node 354 = .ok (.aload_n 0, 1) := by decide +kernel
theorem dL_node_355 : decode cL_node 355 = .ok (.iload_n 1, 1) := by decide +kernel
theorem dL_node_356 : decode cL_node 356 = .ok (.iload_n 2, 1) := by decide +kernel
theorem dL_node_357 : decode cL_node 357 = .ok (.iload 9, 2) := by decide +kernel
theorem dL_node_359 : decode cL_node 359 = .ok (.invokevirtual 48, 3) := by decide +kernel
theorem dL_node_362 : decode cL_node 362 = .ok (.istore 10, 2) := by decide +kernel
theorem dL_node_364 : decode cL_node 364 = .ok (.iload 10, 2) := by decide +kernel
theorem dL_node_366 : decode cL_node 366 = .ok (.iconst (-1), 1) := by decide +kernel
theorem dL_node_367 : decode cL_node 367 = .ok (.if_icmp .eq 22, 3) := by decide +kernel
theorem dL_node_370 : decode cL_node 370 = .ok (.iload 10, 2) := by decide +kernel
theorem dL_node_372 : decode cL_node 372 = .ok (.iload 8, 2) := by decide +kernel
theorem dL_node_374 : decode cL_node 374 = .ok (.if_icmp .le 19, 3) := by decide +kernel
theorem dL_node_377 : decode cL_node 377 = .ok (.aload_n 0, 1) := by decide +kernel
theorem dL_node_378 : decode cL_node 378 = .ok (.iload_n 1, 1) := by decide +kernel
theorem dL_node_379 : decode cL_node 379 = .ok (.iload 10, 2) := by decide +kernel
theorem dL_node_381 : decode cL_node 381 = .ok (.iconst 2, 1) := by decide +kernel
theorem dL_node_382 : decode cL_node 382 = .ok (.invokevirtual 41, 3) := by decide +kernel
theorem dL_node_385 : decode cL_node 385 = .ok (.iload_n 2, 1) := by decide +kernel
theorem dL_node_386 : decode cL_node 386 = .ok (.if_icmp .ne 7, 3) := by decide +kernel
theorem dL_node_389 : decode cL_node 389 = .ok (.iconst 1, 1) := by decide +kernel
theorem dL_node_390 : decode cL_node 390 = .ok (.goto 4, 3) := by decide +kernel
theorem dL_node_393 : decode cL_node 393 = .ok (.iconst 0, 1) := by decide +kernel
theorem dL_node_394 : decode cL_node 394 = .ok (.istore 6, 2) := by decide +kernel
theorem dL_node_396 : decode cL_node 396 = .ok (.iload 7, 2) := by decide +kernel
theorem dL_node_398 : decode cL_node 398 = .ok (.iload 10, 2) := by decide +kernel
theorem dL_node_400 : decode cL_node 400 = .ok (.iconst (-1), 1) := by decide +kernel
theorem dL_node_401 : decode cL_node 401 = .ok (.if_icmp .ne 7, 3) := by decide +kernel
theorem dL_node_404 : decode cL_node 404 = .ok (.iconst 0, 1) := by decide +kernel
theorem dL_node_405 : decode cL_node 405 = .ok (.goto 4, 3) := by decide +kernel
theorem dL_node_408 : decode cL_node 408 = .ok (.iconst 1, 1) := by decide +kernel
theorem dL_node_409 : decode cL_node 409 = .ok (.iadd, 1) := by decide +kernel
theorem dL_node_410 : decode cL_node 410 = .ok (.istore 7, 2) := by decide +kernel
theorem dL_node_412 : decode cL_node 412 = .ok (.iload 10, 2) := by decide +kernel
theorem dL_node_414 : decode cL_node 414 = .ok (.iconst (-1), 1) := by decide +kernel
theorem dL_node_415 : decode cL_node 415 = .ok (.if_icmp .ne 8, 3) := by decide +kernel
theorem dL_node_418 : decode cL_node 418 = .ok (.iload 8, 2) := by decide +kernel
theorem dL_node_420 : decode cL_node 420 = .ok (.goto 5, 3) := by decide +kernel
theorem dL_node_423 : decode cL_node 423 = .ok (.iload 10, 2) := by decide +kernel
theorem dL_node_425 : decode cL_node 425 = .ok (.istore 8, 2) := by decide +kernel
theorem dL_node_427 : decode cL_node 427 = .ok (.iinc 9 1, 3) := by decide +kernel
theorem dL_node_430 : decode cL_node 430 = .ok (.goto (-88), 3) := by decide +kernel
theorem dL_node_433 : decode cL_node 433 = .ok (.iload 6, 2) := by decide +kernel
theorem dL_node_435 : decode cL_node 435 = .ok (.ifCond .eq 51, 3) := by decide +kernel
theorem dL_node_438 : decode cL_node 438 = .ok (.aload_n 0, 1) := by decide +kernel
theorem dL_node_439 : decode cL_node 439 = .ok (.iload_n 1, 1) := by decide +kernel
theorem dL_node_440 : decode cL_node 440 = .ok (.iload_n 2, 1) := by decide +kernel
theorem dL_node_441 : decode cL_node 441 = .ok (.bipush 9, 2) := by decide +kernel
theorem dL_node_443 : decode cL_node 443 = .ok (.invokevirtual 41, 3) := by decide +kernel
theorem dL_node_446 : decode cL_node 446 = .ok (.iload 7, 2) := by decide +kernel
theorem dL_node_448 : decode cL_node 448 = .ok (.if_icmp .ne 38, 3) := by decide +kernel
theorem dL_node_451 : decode cL_node 451 = .ok (.iload 7, 2) := by decide +kernel
theorem dL_node_453 : decode cL_node 453 = .ok (.ifCond .eq 14, 3) := by decide +kernel
theorem dL_node_456 : decode cL_node 456 = .ok (.iload_n 3, 1) := by decide +kernel
theorem dL_node_457 : decode cL_node 457 = .ok (.iconst 5, 1) := by decide +kernel
theorem dL_node_458 : decode cL_node 458 = .ok (.if_icmp .eq 9, 3) := by decide +kernel
theorem dL_node_461 : decode cL_node 461 = .ok (.iload_n 3, 1) := by decide +kernel
theorem dL_node_462 : decode cL_node 462 = .ok (.bipush 6, 2) := by decide +kernel
theorem dL_node_464 : decode cL_node 464 = .ok (.if_icmp .ne 22, 3) := by decide +kernel
theorem dL_node_467 : decode cL_node 467 = .ok (.iload_n 3, 1) := by decide +kernel
theorem dL_node_468 : decode cL_node 468 = .ok (.ifCond .ne 14, 3) := by decide +kernel
theorem dL_node_471 : decode cL_node 471 = .ok (.aload_n 0, 1) := by decide +kernel
theorem dL_node_472 : decode cL_node 472 = .ok (.iload_n 1, 1) := by decide +kernel
theorem dL_node_473 : decode cL_node 473 = .ok (.iload_n 2, 1) := by decide +kernel
theorem dL_node_474 : decode cL_node 474 = .ok (.iconst 5, 1) := by decide +kernel
theorem dL_node_475 : decode cL_node 475 = .ok (.invokevirtual 41, 3) := by decide +kernel
theorem dL_node_478 : decode cL_node 478 = .ok (.iconst 1, 1) := by decide +kernel
theorem dL_node_479 : decode cL_node 479 = .ok (.if_icmp .ne 7, 3) := by decide +kernel
theorem dL_node_482 : decode cL_node 482 = .ok (.iconst 1, 1) := by decide +kernel
theorem dL_node_483 : decode cL_node 483 = .ok (.goto 4, 3) := by decide +kernel
theorem dL_node_486 : decode cL_node 486 = .ok (.iconst 0, 1) := by decide +kernel
theorem dL_node_487 : decode cL_node 487 = .ok (.ireturn, 1) := by decide +kernel
theorem dL_shape_0 : decode cL_shape 0 = .ok (.aload_n 0, 1) := by decide +kernel
theorem dL_shape_1 : decode cL_shape 1 = .ok (.iload_n 1, 1) := by decide +kernel
theorem dL_shape_2 : decode cL_shape 2 = .ok (.iconst 1, 1) := by decide +kernel
theorem dL_shape_3 : decode cL_shape 3 = .ok (.invokevirtual 45, 3) := by decide +kernel
theorem dL_shape_6 : decode cL_shape 6 = .ok (.istore_n 2, 1) := by decide +kernel
theorem dL_shape_7 : decode cL_shape 7 = .ok (.iconst 0, 1) := by decide +kernel
theorem dL_shape_8 : decode cL_shape 8 = .ok (.istore_n 3, 1) := by decide +kernel
theorem dL_shape_9 : decode cL_shape 9 = .ok (.iconst 0, 1) := by decide +kernel
theorem dL_shape_10 : decode cL_shape 10 = .ok (.istore 4, 2) := by decide +kernel
theorem dL_shape_12 : decode cL_shape 12 = .ok (.iconst 0, 1) := by decide +kernel
theorem dL_shape_13 : decode cL_shape 13 = .ok (.istore 5, 2) := by decide +kernel
theorem dL_shape_15 : decode cL_shape 15 = .ok (.iconst (-1), 1) := by decide +kernel
theorem dL_shape_16 : decode cL_shape 16 = .ok (.istore 6, 2) := by decide +kernel
theorem dL_shape_18 : decode cL_shape 18 = .ok (.iconst 0, 1) := by decide +kernel
theorem dL_shape_19 : decode cL_shape 19 = .ok (.istore 7, 2) := by decide +kernel
theorem dL_shape_21 : decode cL_shape 21 = .ok (.iload_n 2, 1) := by decide +kernel
theorem dL_shape_22 : decode cL_shape 22 = .ok (.bipush 30, 2) := by decide +kernel
theorem dL_shape_24 : decode cL_shape 24 = .ok (.if_icmp .gt 33, 3) := by decide +kernel
theorem dL_shape_27 : decode cL_shape 27 = .ok (.iload_n 2, 1) := by decide +kernel
theorem dL_shape_28 : decode cL_shape 28 = .ok (.ifCond .ne 7, 3) := by decide +kernel
theorem dL_shape_31 : decode cL_shape 31 = .ok (.iconst 1, 1) := by decide +kernel
theorem dL_shape_32 : decode cL_shape 32 = .ok (.goto 4, 3) := by decide +kernel
theorem dL_shape_35 : decode cL_shape 35 = .ok (.iconst 0, 1) := by decide +kernel
theorem dL_shape_36 : decode cL_shape 36 = .ok (.aload_n 0, 1) := by decide +kernel
theorem dL_shape_37 : decode cL_shape 37 = .ok (.iload_n 1, 1) := by decide +kernel
theorem dL_shape_38 : decode cL_shape 38 = .ok (.iconst 0, 1) := by decide +kernel
theorem dL_shape_39 : decode cL_shape 39 = .ok (.invokevirtual 45, 3) := by decide +kernel
theorem dL_shape_42 : decode cL_shape 42 = .ok (.ifCond .ne 7, 3) := by decide +kernel
theorem dL_shape_45 : decode cL_shape 45 = .ok (.iconst 1, 1) := by decide +kernel
theorem dL_shape_46 : decode cL_shape 46 = .ok (.goto 4, 3) := by decide +kernel
theorem dL_shape_49 : decode cL_shape 49 = .ok (.iconst 0, 1) := by decide +kernel
theorem dL_shape_50 : decode cL_shape 50 = .ok (.if_icmp .ne 7, 3) := by decide +kernel
theorem dL_shape_53 : decode cL_shape 53 = .ok (.iconst 1, 1) := by decide +kernel
theorem dL_shape_54 : decode cL_shape 54 = .ok (.goto 4, 3) := by decide +kernel
theorem dL_shape_57 : decode cL_shape 57 = .ok (.iconst 0, 1) := by decide +kernel
theorem dL_shape_58 : decode cL_shape 58 = .ok (.istore 8, 2) := by decide +kernel
theorem dL_shape_60 : decode cL_shape 60 = .ok (.iconst 0, 1) := by decide +kernel
theorem dL_shape_61 : decode cL_shape 61 = .ok (.istore 9, 2) := by decide +kernel
theorem dL_shape_63 : decode cL_shape 63 = .ok (.iload 9, 2) := by decide +kernel
theorem dL_shape_65 : decode cL_shape 65 = .ok (.iload_n 2, 1) := by decide +kernel
theorem dL_shape_66 : decode cL_shape 66 = .ok (.if_icmp .ge 145, 3) := by decide +kernel
theorem dL_shape_69 : decode cL_shape 69 = .ok (.iload 8, 2) := by decide +kernel
theorem dL_shape_71 : decode cL_shape 71 = .ok (.ifCond .eq 140, 3) := by decide +kernel
theorem dL_shape_74 : decode cL_shape 74 = .ok (.aload_n 0, 1) := by decide +kernel
theorem dL_shape_75 : decode cL_shape 75 = .ok (.iload_n 1, 1) := by decide +kernel
theorem dL_shape_76 : decode cL_shape 76 = .ok (.iload 9, 2) := by decide +kernel
theorem dL_shape_78 : decode cL_shape 78 = .ok (.invokestatic 51, 3) := by decide +kernel
theorem dL_shape_81 : decode cL_shape 81 = .ok (.istore 8, 2) := by decide +kernel
theorem dL_shape_83 : decode cL_shape 83 = .ok (.iload_n 3, 1) := by decide +kernel
theorem dL_shape_84 : decode cL_shape 84 = .ok (.aload_n 0, 1) := by decide +kernel
theorem dL_shape_85 : decode cL_shape 85 = .ok (.iload_n 1, 1) := by decide +kernel
theorem dL_shape_86 : decode cL_shape 86 = .ok (.iload 9, 2) := by decide +kernel
theorem dL_shape_88 : decode cL_shape 88 = .ok (.iconst 0, 1) := by decide +kernel
theorem dL_shape_89 : decode cL_shape 89 = .ok (.invokevirtual 41, 3) := by decide +kernel
theorem dL_shape_92 : decode cL_shape 92 = .ok (.bipush 7, 2) := by decide +kernel
theorem dL_shape_94 : decode cL_shape 94 = .ok (.if_icmp .ne 7, 3) := by decide +kernel
theorem dL_shape_97 : decode cL_shape 97 = .ok (.iconst 1, 1) := by decide +kernel
theorem dL_shape_98 : decode cL_shape 98 = .ok (.goto 4, 3) := by decide +kernel
theorem dL_shape_101 : decode cL_shape 101 = .ok (.iconst 0, 1) := by decide +kernel
theorem dL_shape_102 : decode cL_shape 102 = .ok (.iadd, 1) := by decide +kernel
theorem dL_shape_103 : decode cL_shape 103 = .ok (.istore_n 3, 1) := by decide +kernel
theorem dL_shape_104 : decode cL_shape 104 = .ok (.iload 4, 2) := by decide +kernel
theorem dL_shape_106 : decode cL_shape 106 = .ok (.aload_n 0, 1) := by decide +kernel
theorem dL_shape_107 : decode cL_shape 107 = .ok (.iload_n 1, 1) := by decide +kernel
theorem dL_shape_108 : decode cL_shape 108 = .ok (.iload 9, 2) := by decide +kernel
theorem dL_shape_110 : decode cL_shape 110 = .ok (.bipush 7, 2) := by decide +kernel
theorem dL_shape_112 : decode cL_shape 112 = .ok (.invokevirtual 41, 3) := by decide +kernel
theorem dL_shape_115 : decode cL_shape 115 = .ok (.iadd, 1) := by decide +kernel
theorem dL_shape_116 : decode cL_shape 116 = .ok (.istore 4, 2) := by decide +kernel
theorem dL_shape_118 : decode cL_shape 118 = .ok (.iload 5, 2) := by decide +kernel
theorem dL_shape_120 : decode cL_shape 120 = .ok (.aload_n 0, 1) := by decide +kernel
theorem dL_shape_121 : decode cL_shape 121 = .ok (.iload_n 1, 1) := by decide +kernel
theorem dL_shape_122 : decode cL_shape 122 = .ok (.iload 9, 2) := by decide +kernel
theorem dL_shape_124 : decode cL_shape 124 = .ok (.iconst 5, 1) := by decide +kernel
theorem dL_shape_125 : decode cL_shape 125 = .ok (.invokevirtual 41, 3) := by decide +kernel
theorem dL_shape_128 : decode cL_shape 128 = .ok (.iadd, 1) := by decide +kernel
theorem dL_shape_129 : decode cL_shape 129 = .ok (.istore 5, 2) := by decide +kernel
theorem dL_shape_131 : decode cL_shape 131 = .ok (.iload 7, 2) := by decide +kernel
theorem dL_shape_133 : decode cL_shape 133 = .ok (.aload_n 0, 1) := by decide +kernel
theorem dL_shape_134 : decode cL_shape 134 = .ok (.iload_n 1, 1) := by decide +kernel
theorem dL_shape_135 : decode cL_shape 135 = .ok (.iload 9, 2) := by decide +kernel
theorem dL_shape_137 : decode cL_shape 137 = .ok (.iconst 0, 1) := by decide +kernel
theorem dL_shape_138 : decode cL_shape 138 = .ok (.invokevirtual 41, 3) := by decide +kernel
theorem dL_shape_141 : decode cL_shape 141 = .ok (.bipush 7, 2) := by decide +kernel
theorem dL_shape_143 : decode cL_shape 143 = .ok (.if_icmp .ge 30, 3) := by decide +kernel
theorem dL_shape_146 : decode cL_shape 146 = .ok (.aload_n 0, 1) := by decide +kernel
theorem dL_shape_147 : decode cL_shape 147 = .ok (.iload_n 1, 1) := by decide +kernel
theorem dL_shape_148 : decode cL_shape 148 = .ok (.iload 9, 2) := by decide +kernel
theorem dL_shape_150 : decode cL_shape 150 = .ok (.bipush 7, 2) := by decide +kernel
theorem dL_shape_152 : decode cL_shape 152 = .ok (.invokevirtual 41, 3) := by decide +kernel
theorem dL_shape_155 : decode cL_shape 155 = .ok (.ifCond .ne 18, 3) := by decide +kernel
theorem dL_shape_158 : decode cL_shape 158 = .ok (.aload_n 0, 1) := by decide +kernel
theorem dL_shape_159 : decode cL_shape 159 = .ok (.iload_n 1, 1) := by decide +kernel
theorem dL_shape_160 : decode cL_shape 160 = .ok (.iload 9, 2) := by decide +kernel
theorem dL_shape_162 : decode cL_shape 162 = .ok (.iconst 5, 1) := by decide +kernel
theorem dL_shape_163 : decode cL_shape 163 = .ok (.invokevirtual 41, 3) := by decide +kernel
theorem dL_shape_166 : decode cL_shape 166 = .ok (.ifCond .ne 7, 3) := by decide +kernel
theorem dL_shape_169 : decode cL_shape 169 = .ok (.iconst 1, 1) := by decide +kernel
theorem dL_shape_170 : decode cL_shape 170 = .ok (.goto 4, 3) := by decide +kernel
theorem dL_shape_173 : decode cL_shape 173 = .ok (.iconst 0, 1) := by decide +kernel
theorem dL_shape_174 : decode cL_shape 174 = .ok (.iadd, 1) := by decide +kernel
theorem dL_shape_175 : decode cL_shape 175 = .ok (.istore 7, 2) := by decide +kernel
theorem dL_shape_177 : decode cL_shape 177 = .ok (.aload_n 0, 1) := by decide +kernel
theorem dL_shape_178 : decode cL_shape 178 = .ok (.iload_n 1, 1) := by decide +kernel
theorem dL_shape_179 : decode cL_shape 179 = .ok (.iload 9, 2) := by decide +kernel
theorem dL_shape_181 : decode cL_shape 181 = .ok (.iconst 3, 1) := by decide +kernel
theorem dL_shape_182 : decode cL_shape 182 = .ok (.invokevirtual 41, 3) := by decide +kernel
theorem dL_shape_185 : decode cL_shape 185 = .ok (.iload 6, 2) := by decide +kernel
theorem dL_shape_187 : decode cL_shape 187 = .ok (.if_icmp .le 14, 3) := by decide +kernel
theorem dL_shape_190 : decode cL_shape 190 = .ok (.aload_n 0, 1) := by decide +kernel
theorem dL_shape_191 : decode cL_shape 191 = .ok (.iload_n 1, 1) := by decide +kernel
theorem dL_shape_192 : decode cL_shape 192 = .ok (.iload 9, 2) := by decide +kernel
theorem dL_shape_194 : decode cL_shape 194 = .ok (.iconst 3, 1) := by decide +kernel
theorem dL_shape_195 : decode cL_shape 195 = .ok (.invokevirtual 41, 3) := by decide +kernel
theorem dL_shape_198 : decode cL_shape 198 = .ok (.goto 5, 3) := by decide +kernel
theorem dL_shape_201 : decode cL_shape 201 = .ok (.iload 6, 2) := by decide +kernel
theorem dL_shape_203 : decode cL_shape 203 = .ok (.istore 6, 2) := by decide +kernel
theorem dL_shape_205 : decode cL_shape 205 = .ok (.iinc 9 1, 3) := by decide +kernel
theorem dL_shape_208 : decode cL_shape 208 = .ok (.goto (-145), 3) := by decide +kernel
theorem dL_shape_211 : decode cL_shape 211 = .ok (.iload 8, 2) := by decide +kernel
theorem dL_shape_213 : decode cL_shape 213 = .ok (.ifCond .eq 56, 3) := by decide +kernel
theorem dL_shape_216 : decode cL_shape 216 = .ok (.iload_n 3, 1) := by decide +kernel
theorem dL_shape_217 : decode cL_shape 217 = .ok (.aload_n 0, 1) := by decide +kernel
theorem dL_shape_218 : decode cL_shape 218 = .ok (.iload_n 1, 1) := by decide +kernel
theorem dL_shape_219 : decode cL_shape 219 = .ok (.iconst 2, 1) := by decide +kernel
theorem dL_shape_220 : decode cL_shape 220 = .ok (.invokevirtual 45, 3) := by decide +kernel
theorem dL_shape_223 : decode cL_shape 223 = .ok (.if_icmp .ne 46, 3) := by decide +kernel
theorem dL_shape_226 : decode cL_shape 226 = .ok (.iload 4, 2) := by decide +kernel
theorem dL_shape_228 : decode cL_shape 228 = .ok (.aload_n 0, 1) := by decide +kernel
theorem dL_shape_229 : decode cL_shape 229 = .ok (.iload_n 1, 1) := by decide +kernel
theorem dL_shape_230 : decode cL_shape 230 = .ok (.iconst 3, 1) := by decide +kernel
theorem dL_shape_231 : decode cL_shape 231 = .ok (.invokevirtual 45, 3) := by decide +kernel
theorem dL_shape_234 : decode cL_shape 234 = .ok (.if_icmp .ne 35, 3) := by decide +kernel
theorem dL_shape_237 : decode cL_shape 237 = .ok (.iload 5, 2) := by decide +kernel
theorem dL_shape_239 : decode cL_shape 239 = .ok (.aload_n 0, 1) := by decide +kernel
theorem dL_shape_240 : decode cL_shape 240 = .ok (.iload_n 1, 1) := by decide +kernel
theorem dL_shape_241 : decode cL_shape 241 = .ok (.iconst 4, 1) := by decide +kernel
theorem dL_shape_242 : decode cL_shape 242 = .ok (.invokevirtual 45, 3) := by decide +kernel
theorem dL_shape_245 : decode cL_shape 245 = .ok (.if_icmp .ne 24, 3) := by decide +kernel
theorem dL_shape_248 : decode cL_shape 248 = .ok (.iload 6, 2) := by decide +kernel
theorem dL_shape_250 : decode cL_shape 250 = .ok (.aload_n 0, 1) := by decide +kernel
theorem dL_shape_251 : decode cL_shape 251 = .ok (.iload_n 1, 1) := by decide +kernel
theorem dL_shape_252 : decode cL_shape 252 = .ok (.iconst 5, 1) := by decide +kernel
theorem dL_shape_253 : decode cL_shape 253 = .ok (.invokevirtual 45, 3) := by decide +kernel
theorem dL_shape_256 : decode cL_shape 256 = .ok (.if_icmp .ne 13, 3) := by decide +kernel
theorem dL_shape_259 : decode cL_shape 259 = .ok (.iload 6, 2) := by decide +kernel
theorem dL_shape_261 : decode cL_shape 261 = .ok (.iconst 5, 1) := by decide +kernel
theorem dL_shape_262 : decode cL_shape 262 = .ok (.if_icmp .ge 7, 3) := by decide +kernel
theorem dL_shape_265 : decode cL_shape 265 = .ok (.iconst 1, 1) := by decide +kernel
theorem dL_shape_266 : decode cL_shape 266 = .ok (.goto 4, 3) := by decide +kernel
theorem dL_shape_269 : decode cL_shape 269 = .ok (.iconst 0, 1) := by decide +kernel
theorem dL_shape_270 : decode cL_shape 270 = .ok (.istore 8, 2) := by decide +kernel
theorem dL_shape_272 : decode cL_shape 272 = .ok (.iload 8, 2) := by decide +kernel
theorem dL_shape_274 : decode cL_shape 274 = .ok (.ifCond .eq 56, 3) := by decide +kernel
theorem dL_shape_277 : decode cL_shape 277 = .ok (.iload_n 2, 1) := by decide +kernel
theorem dL_shape_278 : decode cL_shape 278 = .ok (.ifCond .eq 48, 3) := by decide +kernel
theorem dL_shape_281 : decode cL_shape 281 = .ok (.aload_n 0, 1) := by decide +kernel
theorem dL_shape_282 : decode cL_shape 282 = .ok (.iload_n 1, 1) := by decide +kernel
theorem dL_shape_283 : decode cL_shape 283 = .ok (.iconst 0, 1) := by decide +kernel
theorem dL_shape_284 : decode cL_shape 284 = .ok (.iconst 4, 1) := by decide +kernel
theorem dL_shape_285 : decode cL_shape 285 = .ok (.invokevirtual 41, 3) := by decide +kernel
theorem dL_shape_288 : decode cL_shape 288 = .ok (.aload_n 0, 1) := by decide +kernel
theorem dL_shape_289 : decode cL_shape 289 = .ok (.iload_n 1, 1) := by decide +kernel
theorem dL_shape_290 : decode cL_shape 290 = .ok (.iconst 0, 1) := by decide +kernel
theorem dL_shape_291 : decode cL_shape 291 = .ok (.invokevirtual 45, 3) := by decide +kernel
theorem dL_shape_294 : decode cL_shape 294 = .ok (.if_icmp .ne 36, 3) := by decide +kernel
theorem dL_shape_297 : decode cL_shape 297 = .ok (.aload_n 0, 1) := by decide +kernel
theorem dL_shape_298 : decode cL_shape 298 = .ok (.iload_n 1, 1) := by decide +kernel
theorem dL_shape_299 : decode cL_shape 299 = .ok (.iconst 0, 1) := by decide +kernel
theorem dL_shape_300 : decode cL_shape 300 = .ok (.bipush 6, 2) := by decide +kernel
theorem dL_shape_302 : decode cL_shape 302 = .ok (.invokevirtual 41, 3) := by decide +kernel
theorem dL_shape_305 : decode cL_shape 305 = .ok (.aload_n 0, 1) := by decide +kernel
theorem dL_shape_306 : decode cL_shape 306 = .ok (.iload_n 1, 1) := by decide +kernel
theorem dL_shape_307 : decode cL_shape 307 = .ok (.iconst 0, 1) := by decide +kernel
theorem dL_shape_308 : decode cL_shape 308 = .ok (.invokevirtual 45, 3) := by decide +kernel
theorem dL_shape_311 : decode cL_shape 311 = .ok (.if_icmp .ne 19, 3) := by decide +kernel
theorem dL_shape_314 : decode cL_shape 314 = .ok (.aload_n 0, 1) := by decide +kernel
theorem dL_shape_315 : decode cL_shape 315 = .ok (.iload_n 1, 1) := by decide +kernel
theorem dL_shape_316 : decode cL_shape 316 = .ok (.iconst 0, 1) := by decide +kernel
theorem dL_shape_317 : decode cL_shape 317 = .ok (.iconst 0, 1) := by decide +kernel
theorem dL_shape_318 : decode cL_shape 318 = .ok (.invokevirtual 41, 3) := by decide +kernel
theorem dL_shape_321 : decode cL_shape 321 = .ok (.bipush 6, 2) := by decide +kernel
theorem dL_shape_323 : decode cL_shape 323 = .ok (.if_icmp .ne 7, 3) := by decide +kernel
theorem dL_shape_326 : decode cL_shape 326 = .ok (.iconst 1, 1) := by decide +kernel
theorem dL_shape_327 : decode cL_shape 327 = .ok (.goto 4, 3) := by decide +kernel
theorem dL_shape_330 : decode cL_shape 330 = .ok (.iconst 0, 1) := by decide +kernel
theorem dL_shape_331 : decode cL_shape 331 = .ok (.istore 8, 2) := by decide +kernel
theorem dL_shape_333 : decode cL_shape 333 = .ok (.iload 8, 2) := by decide +kernel
theorem dL_shape_335 : decode cL_shape 335 = .ok (.ifCond .eq 30, 3) := by decide +kernel
theorem dL_shape_338 : decode cL_shape 338 = .ok (.aload_n 0, 1) := by decide +kernel
theorem dL_shape_339 : decode cL_shape 339 = .ok (.iload_n 1, 1) := by decide +kernel
theorem dL_shape_340 : decode cL_shape 340 = .ok (.invokevirtual 54, 3) := by decide +kernel
theorem dL_shape_343 : decode cL_shape 343 = .ok (.iload_n 2, 1) := by decide +kernel
theorem dL_shape_344 : decode cL_shape 344 = .ok (.ifCond .ne 7, 3) := by decide +kernel
theorem dL_shape_347 : decode cL_shape 347 = .ok (.dconst 1, 1) := by decide +kernel
theorem dL_shape_348 : decode cL_shape 348 = .ok (.goto 9, 3) := by decide +kernel
theorem dL_shape_351 : decode cL_shape 351 = .ok (.iload 7, 2) := by decide +kernel
theorem dL_shape_353 : decode cL_shape 353 = .ok (.i2d, 1) := by decide +kernel
theorem dL_shape_354 : decode cL_shape 354 = .ok (.iload_n 2, 1) := by decide +kernel
theorem dL_shape_355 : decode cL_shape 355 = .ok (.i2d, 1) := by decide +kernel
theorem dL_shape_356 : decode cL_shape 356 = .ok (.ddiv, 1) := by decide +kernel
theorem dL_shape_357 : decode cL_shape 357 = .ok (.dcmp .l, 1) := by decide +kernel
theorem dL_shape_358 : decode cL_shape 358 = .ok (.ifCond .ne 7, 3) := by decide +kernel
theorem dL_shape_361 : decode cL_shape 361 = .ok (.iconst 1, 1) := by decide +kernel
theorem dL_shape_362 : decode cL_shape 362 = .ok (.goto 4, 3) := by decide +kernel
theorem dL_shape_365 : decode cL_shape 365 = .ok (.iconst 0, 1) := by decide +kernel
theorem dL_shape_366 : decode cL_shape 366 = .ok (.ireturn, 1) := by decide +kernel
theorem dL_law_0 : decode cL_law 0 = .ok (.new 10, 3) := by decide +kernel
theorem dL_law_3 : decode cL_law 3 = .ok (.dup, 1) := by decide +kernel
theorem dL_law_4 : decode cL_law 4 = .ok (.invokespecial 58, 3) := by decide +kernel
theorem dL_law_7 : decode cL_law 7 = .ok (.astore_n 1, 1) := by decide +kernel
theorem dL_law_8 : decode cL_law 8 = .ok (.iconst 1, 1) := by decide +kernel
theorem dL_law_9 : decode cL_law 9 = .ok (.istore_n 2, 1) := by decide +kernel
theorem dL_law_10 : decode cL_law 10 = .ok (.aload_n 0, 1) := by decide +kernel
theorem dL_law_11 : decode cL_law 11 = .ok (.arraylength, 1) := by decide +kernel
theorem dL_law_12 : decode cL_law 12 = .ok (.bipush 19, 2) := by decide +kernel
theorem dL_law_14 : decode cL_law 14 = .ok (.idiv, 1) := by decide +kernel
theorem dL_law_15 : decode cL_law 15 = .ok (.bipush 14, 2) := by decide +kernel
theorem dL_law_17 : decode cL_law 17 = .ok (.if_icmp .le 8, 3) := by decide +kernel
theorem dL_law_20 : decode cL_law 20 = .ok (.bipush 14, 2) := by decide +kernel
theorem dL_law_22 : decode cL_law 22 = .ok (.goto 8, 3) := by decide +kernel
theorem dL_law_25 : decode cL_law 25 = .ok (.aload_n 0, 1) := by decide +kernel
theorem dL_law_26 : decode cL_law 26 = .ok (.arraylength, 1) := by decide +kernel
theorem dL_law_27 : decode cL_law 27 = .ok (.bipush 19, 2) := by decide +kernel
theorem dL_law_29 : decode cL_law 29 = .ok (.idiv, 1) := by decide +kernel
theorem dL_law_30 : decode cL_law 30 = .ok (.istore_n 3, 1) := by decide +kernel
theorem dL_law_31 : decode cL_law 31 = .ok (.iconst 0, 1) := by decide +kernel
theorem dL_law_32 : decode cL_law 32 = .ok (.istore 4, 2) := by decide +kernel
theorem dL_law_34 : decode cL_law 34 = .ok (.iload 4, 2) := by decide +kernel
theorem dL_law_36 : decode cL_law 36 = .ok (.iload_n 3, 1) := by decide +kernel
theorem dL_law_37 : decode cL_law 37 = .ok (.if_icmp .ge 467, 3) := by decide +kernel
theorem dL_law_40 : decode cL_law 40 = .ok (.iload_n 2, 1) := by decide +kernel
theorem dL_law_41 : decode cL_law 41 = .ok (.ifCond .eq 463, 3) := by decide +kernel
theorem dL_law_44 : decode cL_law 44 = .ok (.aload_n 0, 1) := by decide +kernel
theorem dL_law_45 : decode cL_law 45 = .ok (.bipush 19, 2) := by decide +kernel
theorem dL_law_47 : decode cL_law 47 = .ok (.iload 4, 2) := by decide +kernel
theorem dL_law_49 : decode cL_law 49 = .ok (.imul, 1) := by decide +kernel
theorem dL_law_50 : decode cL_law 50 = .ok (.invokestatic 21, 3) := by decide +kernel
theorem dL_law_53 : decode cL_law 53 = .ok (.bipush 12, 2) := by decide +kernel
theorem dL_law_55 : decode cL_law 55 = .ok (.invokestatic 15, 3) := by decide +kernel
theorem dL_law_58 : decode cL_law 58 = .ok (.istore 5, 2) := by decide +kernel
theorem dL_law_60 : decode cL_law 60 = .ok (.aload_n 0, 1) := by decide +kernel
theorem dL_law_61 : decode cL_law 61 = .ok (.bipush 19, 2) := by decide +kernel
theorem dL_law_63 : decode cL_law 63 = .ok (.iload 4, 2) := by decide +kernel
theorem dL_law_65 : decode cL_law 65 = .ok (.imul, 1) := by decide +kernel
theorem dL_law_66 : decode cL_law 66 = .ok (.iconst 1, 1) := by decide +kernel
theorem dL_law_67 : decode cL_law 67 = .ok (.iadd, 1) := by decide +kernel
theorem dL_law_68 : decode cL_law 68 = .ok (.invokestatic 21, 3) := by decide +kernel
theorem dL_law_71 : decode cL_law 71 = .ok (.iconst 2, 1) := by decide +kernel
theorem dL_law_72 : decode cL_law 72 = .ok (.invokestatic 15, 3) := by decide +kernel
theorem dL_law_75 : decode cL_law 75 = .ok (.istore 6, 2) := by decide +kernel
theorem dL_law_77 : decode cL_law 77 = .ok (.aload_n 1, 1) := by decide +kernel
theorem dL_law_78 : decode cL_law 78 = .ok (.iconst 2, 1) := by decide +kernel
theorem dL_law_79 : decode cL_law 79 = .ok (.invokevirtual 59, 3) := by decide +kernel
theorem dL_law_82 : decode cL_law 82 = .ok (.istore 7, 2) := by decide +kernel
theorem dL_law_84 : decode cL_law 84 = .ok (.aload_n 1, 1) := by decide +kernel
theorem dL_law_85 : decode cL_law 85 = .ok (.iconst 0, 1) := by decide +kernel
theorem dL_law_86 : decode cL_law 86 = .ok (.iconst 0, 1) := by decide +kernel
theorem dL_law_87 : decode cL_law 87 = .ok (.invokevirtual 45, 3) := by decide +kernel
theorem dL_law_90 : decode cL_law 90 = .ok (.aload_n 1, 1) := by decide +kernel
theorem dL_law_91 : decode cL_law 91 = .ok (.iconst 1, 1) := by decide +kernel
theorem dL_law_92 : decode cL_law 92 = .ok (.iconst 0, 1) := by decide +kernel
theorem dL_law_93 : decode cL_law 93 = .ok (.invokevirtual 45, 3) := by decide +kernel
theorem dL_law_96 : decode cL_law 96 = .ok (.iadd, 1) := by decide +kernel
theorem dL_law_97 : decode cL_law 97 = .ok (.istore 8, 2) := by decide +kernel
theorem dL_law_99 : decode cL_law 99 = .ok (.iconst 0, 1) := by decide +kernel
theorem dL_law_100 : decode cL_law 100 = .ok (.istore 9, 2) := by decide +kernel
theorem dL_law_102 : decode cL_law 102 = .ok (.aload_n 1, 1) := by decide +kernel
theorem dL_law_103 : decode cL_law 103 = .ok (.invokevirtual 62, 3) := by decide +kernel
theorem dL_law_106 : decode cL_law 106 = .ok (.pop, 1) := by decide +kernel
theorem dL_law_107 : decode cL_law 107 = .ok (.aload_n 1, 1) := by decide +kernel
theorem dL_law_108 : decode cL_law 108 = .ok (.aload_n 0, 1) := by decide +kernel
theorem dL_law_109 : decode cL_law 109 = .ok (.bipush 19, 2) := by decide +kernel
theorem dL_law_111 : decode cL_law 111 = .ok (.iload 4, 2) := by decide +kernel
theorem dL_law_113 : decode cL_law 113 = .ok (.imul, 1) := by decide +kernel
theorem dL_law_114 : decode cL_law 114 = .ok (.iconst 1, 1) := by decide +kernel
theorem dL_law_115 : decode cL_law 115 = .ok (.iadd, 1) := by decide +kernel
theorem dL_law_116 : decode cL_law 116 = .ok (.invokestatic 65, 3) := by decide +kernel
theorem dL_law_119 : decode cL_law 119 = .ok (.pop, 1) := by decide +kernel
theorem dL_law_120 : decode cL_law 120 = .ok (.aload_n 1, 1) := by decide +kernel
theorem dL_law_121 : decode cL_law 121 = .ok (.iload 6, 2) := by decide +kernel
theorem dL_law_123 : decode cL_law 123 = .ok (.iconst 4, 1) := by decide +kernel
theorem dL_law_124 : decode cL_law 124 = .ok (.invokevirtual 69, 3) := by decide +kernel
theorem dL_law_127 : decode cL_law 127 = .ok (.iconst 1, 1) := by decide +kernel
theorem dL_law_128 : decode cL_law 128 = .ok (.if_icmp .ne 7, 3) := by decide +kernel
theorem dL_law_131 : decode cL_law 131 = .ok (.iconst 1, 1) := by decide +kernel
theorem dL_law_132 : decode cL_law 132 = .ok (.goto 4, 3) := by decide +kernel
theorem dL_law_135 : decode cL_law 135 = .ok (.iconst 0, 1) := by decide +kernel
theorem dL_law_136 : decode cL_law 136 = .ok (.istore 10, 2) := by decide +kernel
theorem dL_law_138 : decode cL_law 138 = .ok (.aload_n 1, 1) := by decide +kernel
theorem dL_law_139 : decode cL_law 139 = .ok (.iload 6, 2) := by decide +kernel
theorem dL_law_141 : decode cL_law 141 = .ok (.iconst 0, 1) := by decide +kernel
theorem dL_law_142 : decode cL_law 142 = .ok (.invokevirtual 69, 3) := by decide +kernel
theorem dL_law_145 : decode cL_law 145 = .ok (.istore 11, 2) := by decide +kernel
theorem dL_law_147 : decode cL_law 147 = .ok (.iload 5, 2) := by decide +kernel
theorem dL_law_149 : decode cL_law 149 = .ok (.bipush 7, 2) := by decide +kernel
theorem dL_law_151 : decode cL_law 151 = .ok (.if_icmp .ge 69, 3) := by decide +kernel
theorem dL_law_154 : decode cL_law 154 = .ok (.aload_n 1, 1) := by decide +kernel
theorem dL_law_155 : decode cL_law 155 = .ok (.iload 6, 2) := by decide +kernel
theorem dL_law_157 : decode cL_law 157 = .ok (.invokestatic 72, 3) := by decide +kernel
theorem dL_law_160 : decode cL_law 160 = .ok (.istore 9, 2) := by decide +kernel
theorem dL_law_162 : decode cL_law 162 = .ok (.iload 9, 2) := by decide +kernel
theorem dL_law_164 : decode cL_law 164 = .ok (.bipush (-3), 2) := by decide +kernel
theorem dL_law_166 : decode cL_law 166 = .ok (.if_icmp .ne 7, 3) := by decide +kernel
theorem dL_law_169 : decode cL_law 169 = .ok (.iconst 1, 1) := by decide +kernel
theorem dL_law_170 : decode cL_law 170 = .ok (.goto 4, 3) := by decide +kernel
theorem dL_law_173 : decode cL_law 173 = .ok (.iconst 0, 1) := by decide +kernel
theorem dL_law_174 : decode cL_law 174 = .ok (.iload 10, 2) := by decide +kernel
theorem dL_law_176 : decode cL_law 176 = .ok (.if_icmp .ne 39, 3) := by decide +kernel
theorem dL_law_179 : decode cL_law 179 = .ok (.iload 10, 2) := by decide +kernel
theorem dL_law_181 : decode cL_law 181 = .ok (.ifCond .ne 30, 3) := by decide +kernel
theorem dL_law_184 : decode cL_law 184 = .ok (.iload 9, 2) := by decide +kernel
theorem dL_law_186 : decode cL_law 186 = .ok (.iload 11, 2) := by decide +kernel
theorem dL_law_188 : decode cL_law 188 = .ok (.if_icmp .ne 27, 3) := by decide +kernel
theorem dL_law_191 : decode cL_law 191 = .ok (.aload_n 1, 1) := by decide +kernel
theorem dL_law_192 : decode cL_law 192 = .ok (.iconst 0, 1) := by decide +kernel
theorem dL_law_193 : decode cL_law 193 = .ok (.iconst 0, 1) := by decide +kernel
theorem dL_law_194 : decode cL_law 194 = .ok (.invokevirtual 45, 3) := by decide +kernel
theorem dL_law_197 : decode cL_law 197 = .ok (.aload_n 1, 1) := by decide +kernel
theorem dL_law_198 : decode cL_law 198 = .ok (.iconst 1, 1) := by decide +kernel
theorem dL_law_199 : decode cL_law 199 = .ok (.iconst 0, 1) := by decide +kernel
theorem dL_law_200 : decode cL_law 200 = .ok (.invokevirtual 45, 3) := by decide +kernel
theorem dL_law_203 : decode cL_law 203 = .ok (.iadd, 1) := by decide +kernel
theorem dL_law_204 : decode cL_law 204 = .ok (.iload 8, 2) := by decide +kernel
theorem dL_law_206 : decode cL_law 206 = .ok (.iconst 1, 1) := by decide +kernel
theorem dL_law_207 : decode cL_law 207 = .ok (.iadd, 1) := by decide +kernel
theorem dL_law_208 : decode cL_law 208 = .ok (.if_icmp .ne 7, 3) := by decide +kernel
theorem dL_law_211 : decode cL_law 211 = .ok (.iconst 1, 1) := by decide +kernel
theorem dL_law_212 : decode cL_law 212 = .ok (.goto 4, 3) := by decide +kernel
theorem dL_law_215 : decode cL_law 215 = .ok (.iconst 0, 1) := by decide +kernel
theorem dL_law_216 : decode cL_law 216 = .ok (.istore_n 2, 1) := by decide +kernel
theorem dL_law_217 : decode cL_law 217 = .ok (.goto 176, 3) := by decide +kernel
theorem dL_law_220 : decode cL_law 220 = .ok (.iload 5, 2) := by decide +kernel
theorem dL_law_222 : decode cL_law 222 = .ok (.bipush 9, 2) := by decide +kernel
theorem dL_law_224 : decode cL_law 224 = .ok (.if_icmp .ge 86, 3) := by decide +kernel
theorem dL_law_227 : decode cL_law 227 = .ok (.aload_n 1, 1) := by decide +kernel
theorem dL_law_228 : decode cL_law 228 = .ok (.iconst 1, 1) := by decide +kernel
theorem dL_law_229 : decode cL_law 229 = .ok (.iload 6, 2) := by decide +kernel
theorem dL_law_231 : decode cL_law 231 = .ok (.isub, 1) := by decide +kernel
theorem dL_law_232 : decode cL_law 232 = .ok (.iconst 0, 1) := by decide +kernel
theorem dL_law_233 : decode cL_law 233 = .ok (.invokevirtual 45, 3) := by decide +kernel
theorem dL_law_236 : decode cL_law 236 = .ok (.istore 12, 2) := by decide +kernel
theorem dL_law_238 : decode cL_law 238 = .ok (.aload_n 1, 1) := by decide +kernel
theorem dL_law_239 : decode cL_law 239 = .ok (.iload 6, 2) := by decide +kernel
theorem dL_law_241 : decode cL_law 241 = .ok (.iconst 0, 1) := by decide +kernel
theorem dL_law_242 : decode cL_law 242 = .ok (.invokevirtual 45, 3) := by decide +kernel
theorem dL_law_245 : decode cL_law 245 = .ok (.istore 13, 2) := by decide +kernel
theorem dL_law_247 : decode cL_law 247 = .ok (.aload_n 1, 1) := by decide +kernel
theorem dL_law_248 : decode cL_law 248 = .ok (.iload 6, 2) := by decide +kernel
theorem dL_law_250 : decode cL_law 250 = .ok (.invokestatic 75, 3) := by decide +kernel
theorem dL_law_253 : decode cL_law 253 = .ok (.istore 9, 2) := by decide +kernel
theorem dL_law_255 : decode cL_law 255 = .ok (.iload 9, 2) := by decide +kernel
theorem dL_law_257 : decode cL_law 257 = .ok (.bipush (-3), 2) := by decide +kernel
theorem dL_law_259 : decode cL_law 259 = .ok (.if_icmp .eq 42, 3) := by decide +kernel
theorem dL_law_262 : decode cL_law 262 = .ok (.aload_n 1, 1) := by decide +kernel
theorem dL_law_263 : decode cL_law 263 = .ok (.iload 6, 2) := by decide +kernel
theorem dL_law_265 : decode cL_law 265 = .ok (.invokevirtual 77, 3) := by decide +kernel
theorem dL_law_268 : decode cL_law 268 = .ok (.iconst 1, 1) := by decide +kernel
theorem dL_law_269 : decode cL_law 269 = .ok (.if_icmp .ne 36, 3) := by decide +kernel
theorem dL_law_272 : decode cL_law 272 = .ok (.aload_n 1, 1) := by decide +kernel
theorem dL_law_273 : decode cL_law 273 = .ok (.iload 6, 2) := by decide +kernel
theorem dL_law_275 : decode cL_law 275 = .ok (.iconst 0, 1) := by decide +kernel
theorem dL_law_276 : decode cL_law 276 = .ok (.invokevirtual 45, 3) := by decide +kernel
theorem dL_law_279 : decode cL_law 279 = .ok (.iload 13, 2) := by decide +kernel
theorem dL_law_281 : decode cL_law 281 = .ok (.iload 12, 2) := by decide +kernel
theorem dL_law_283 : decode cL_law 283 = .ok (.iadd, 1) := by decide +kernel
theorem dL_law_284 : decode cL_law 284 = .ok (.if_icmp .ne 21, 3) := by decide +kernel
theorem dL_law_287 : decode cL_law 287 = .ok (.aload_n 1, 1) := by decide +kernel
theorem dL_law_288 : decode cL_law 288 = .ok (.iconst 1, 1) := by decide +kernel
theorem dL_law_289 : decode cL_law 289 = .ok (.iload 6, 2) := by decide +kernel
theorem dL_law_291 : decode cL_law 291 = .ok (.isub, 1) := by decide +kernel
theorem dL_law_292 : decode cL_law 292 = .ok (.iconst 0, 1) := by decide +kernel
theorem dL_law_293 : decode cL_law 293 = .ok (.invokevirtual 45, 3) := by decide +kernel
theorem dL_law_296 : decode cL_law 296 = .ok (.iload 12, 2) := by decide +kernel
theorem dL_law_298 : decode cL_law 298 = .ok (.if_icmp .ne 7, 3) := by decide +kernel
theorem dL_law_301 : decode cL_law 301 = .ok (.iconst 1, 1) := by decide +kernel
theorem dL_law_302 : decode cL_law 302 = .ok (.goto 4, 3) := by decide +kernel
theorem dL_law_305 : decode cL_law 305 = .ok (.iconst 0, 1) := by decide +kernel
theorem dL_law_306 : decode cL_law 306 = .ok (.istore_n 2, 1) := by decide +kernel
theorem dL_law_307 : decode cL_law 307 = .ok (.goto 86, 3) := by decide +kernel
theorem dL_law_310 : decode cL_law 310 = .ok (.iload 5, 2) := by decide +kernel
theorem dL_law_312 : decode cL_law 312 = .ok (.bipush 9, 2) := by decide +kernel
theorem dL_law_314 : decode cL_law 314 = .ok (.if_icmp .ne 30, 3) := by decide +kernel
theorem dL_law_317 : decode cL_law 317 = .ok (.aload_n 1, 1) := by decide +kernel
theorem dL_law_318 : decode cL_law 318 = .ok (.iload 6, 2) := by decide +kernel
theorem dL_law_320 : decode cL_law 320 = .ok (.invokevirtual 80, 3) := by decide +kernel
theorem dL_law_323 : decode cL_law 323 = .ok (.istore 9, 2) := by decide +kernel
theorem dL_law_325 : decode cL_law 325 = .ok (.aload_n 1, 1) := by decide +kernel
theorem dL_law_326 : decode cL_law 326 = .ok (.iload 6, 2) := by decide +kernel
theorem dL_law_328 : decode cL_law 328 = .ok (.iconst 1, 1) := by decide +kernel
theorem dL_law_329 : decode cL_law 329 = .ok (.invokevirtual 45, 3) := by decide +kernel
theorem dL_law_332 : decode cL_law 332 = .ok (.ifCond .ne 7, 3) := by decide +kernel
theorem dL_law_335 : decode cL_law 335 = .ok (.iconst 1, 1) := by decide +kernel
theorem dL_law_336 : decode cL_law 336 = .ok (.goto 4, 3) := by decide +kernel
theorem dL_law_339 : decode cL_law 339 = .ok (.iconst 0, 1) := by decide +kernel
theorem dL_law_340 : decode cL_law 340 = .ok (.istore_n 2, 1) := by decide +kernel
theorem dL_law_341 : decode cL_law 341 = .ok (.goto 52, 3) := by decide +kernel
theorem dL_law_344 : decode cL_law 344 = .ok (.iload 5, 2) := by decide +kernel
theorem dL_law_346 : decode cL_law 346 = .ok (.bipush 10, 2) := by decide +kernel
theorem dL_law_348 : decode cL_law 348 = .ok (.if_icmp .ne 39, 3) := by decide +kernel
theorem dL_law_351 : decode cL_law 351 = .ok (.aload_n 0, 1) := by decide +kernel
theorem dL_law_352 : decode cL_law 352 = .ok (.bipush 19, 2) := by decide +kernel
theorem dL_law_354 : decode cL_law 354 = .ok (.iload 4, 2) := by decide +kernel
theorem dL_law_356 : decode cL_law 356 = .ok (.imul, 1) := by decide +kernel
theorem dL_law_357 : decode cL_law 357 = .ok (.iconst 2, 1) := by decide +kernel
theorem dL_law_358 : decode cL_law 358 = .ok (.iadd, 1) := by decide +kernel
theorem dL_law_359 : decode cL_law 359 = .ok (.invokestatic 21, 3) := by decide +kernel
theorem dL_law_362 : decode cL_law 362 = .ok (.iconst 2, 1) := by decide +kernel
theorem dL_law_363 : decode cL_law 363 = .ok (.invokestatic 15, 3) := by decide +kernel
theorem dL_law_366 : decode cL_law 366 = .ok (.ifCond .ne 10, 3) := by decide +kernel
theorem dL_law_369 : decode cL_law 369 = .ok (.aload_n 1, 1) := by decide +kernel
theorem dL_law_370 : decode cL_law 370 = .ok (.invokevirtual 83, 3) := by decide +kernel
theorem dL_law_373 : decode cL_law 373 = .ok (.goto 9, 3) := by decide +kernel
theorem dL_law_376 : decode cL_law 376 = .ok (.aload_n 1, 1) := by decide +kernel
theorem dL_law_377 : decode cL_law 377 = .ok (.iload 6, 2) := by decide +kernel
theorem dL_law_379 : decode cL_law 379 = .ok (.invokevirtual 86, 3) := by decide +kernel
theorem dL_law_382 : decode cL_law 382 = .ok (.istore 9, 2) := by decide +kernel
theorem dL_law_384 : decode cL_law 384 = .ok (.goto 9, 3) := by decide +kernel
theorem dL_law_387 : decode cL_law 387 = .ok (.aload_n 1, 1) := by decide +kernel
theorem dL_law_388 : decode cL_law 388 = .ok (.invokestatic 89, 3) := by decide +kernel
theorem dL_law_391 : decode cL_law 391 = .ok (.istore 9, 2) := by decide +kernel
theorem dL_law_393 : decode cL_law 393 = .ok (.iload_n 2, 1) := by decide +kernel
theorem dL_law_394 : decode cL_law 394 = .ok (.ifCond .eq 56, 3) := by decide +kernel
theorem dL_law_397 : decode cL_law 397 = .ok (.iload 9, 2) := by decide +kernel
theorem dL_law_399 : decode cL_law 399 = .ok (.ifCond .ge 31, 3) := by decide +kernel
theorem dL_law_402 : decode cL_law 402 = .ok (.aload_n 1, 1) := by decide +kernel
theorem dL_law_403 : decode cL_law 403 = .ok (.iconst 2, 1) := by decide +kernel
theorem dL_law_404 : decode cL_law 404 = .ok (.invokevirtual 59, 3) := by decide +kernel
theorem dL_law_407 : decode cL_law 407 = .ok (.iload 7, 2) := by decide +kernel
theorem dL_law_409 : decode cL_law 409 = .ok (.if_icmp .ne 41, 3) := by decide +kernel
theorem dL_law_412 : decode cL_law 412 = .ok (.aload_n 1, 1) := by decide +kernel
theorem dL_law_413 : decode cL_law 413 = .ok (.iconst 0, 1) := by decide +kernel
theorem dL_law_414 : decode cL_law 414 = .ok (.iconst 0, 1) := by decide +kernel
theorem dL_law_415 : decode cL_law 415 = .ok (.invokevirtual 45, 3) := by decide +kernel
theorem dL_law_418 : decode cL_law 418 = .ok (.aload_n 1, 1) := by decide +kernel
theorem dL_law_419 : decode cL_law 419 = .ok (.iconst 1, 1) := by decide +kernel
theorem dL_law_420 : decode cL_law 420 = .ok (.iconst 0, 1) := by decide +kernel
theorem dL_law_421 : decode cL_law 421 = .ok (.invokevirtual 45, 3) := by decide +kernel
theorem dL_law_424 : decode cL_law 424 = .ok (.iadd, 1) := by decide +kernel
theorem dL_law_425 : decode cL_law 425 = .ok (.iload 8, 2) := by decide +kernel
theorem dL_law_427 : decode cL_law 427 = .ok (.if_icmp .ne 23, 3) := by decide +kernel
theorem dL_law_430 : decode cL_law 430 = .ok (.aload_n 1, 1) := by decide +kernel
theorem dL_law_431 : decode cL_law 431 = .ok (.iconst 0, 1) := by decide +kernel
theorem dL_law_432 : decode cL_law 432 = .ok (.invokestatic 92, 3) := by decide +kernel
theorem dL_law_435 : decode cL_law 435 = .ok (.ifCond .eq 15, 3) := by decide +kernel
theorem dL_law_438 : decode cL_law 438 = .ok (.aload_n 1, 1) := by decide +kernel
theorem dL_law_439 : decode cL_law 439 = .ok (.iconst 1, 1) := by decide +kernel
theorem dL_law_440 : decode cL_law 440 = .ok (.invokestatic 92, 3) := by decide +kernel
theorem dL_law_443 : decode cL_law 443 = .ok (.ifCond .eq 7, 3) := by decide +kernel
theorem dL_law_446 : decode cL_law 446 = .ok (.iconst 1, 1) := by decide +kernel
theorem dL_law_447 : decode cL_law 447 = .ok (.goto 4, 3) := by decide +kernel
theorem dL_law_450 : decode cL_law 450 = .ok (.iconst 0, 1) := by decide +kernel
theorem dL_law_451 : decode cL_law 451 = .ok (.istore_n 2, 1) := by decide +kernel
theorem dL_law_452 : decode cL_law 452 = .ok (.iload_n 2, 1) := by decide +kernel
theorem dL_law_453 : decode cL_law 453 = .ok (.ifCond .eq 43, 3) := by decide +kernel
theorem dL_law_456 : decode cL_law 456 = .ok (.aload_n 1, 1) := by decide +kernel
theorem dL_law_457 : decode cL_law 457 = .ok (.iconst 0, 1) := by decide +kernel
theorem dL_law_458 : decode cL_law 458 = .ok (.iconst 1, 1) := by decide +kernel
theorem dL_law_459 : decode cL_law 459 = .ok (.invokevirtual 45, 3) := by decide +kernel
theorem dL_law_462 : decode cL_law 462 = .ok (.ifCond .gt 12, 3) := by decide +kernel
theorem dL_law_465 : decode cL_law 465 = .ok (.aload_n 1, 1) := by decide +kernel
theorem dL_law_466 : decode cL_law 466 = .ok (.iconst 1, 1) := by decide +kernel
theorem dL_law_467 : decode cL_law 467 = .ok (.invokevirtual 77, 3) := by decide +kernel
theorem dL_law_470 : decode cL_law 470 = .ok (.iconst 1, 1) := by decide +kernel
theorem dL_law_471 : decode cL_law 471 = .ok (.if_icmp .ne 25, 3) := by decide +kernel
theorem dL_law_474 : decode cL_law 474 = .ok (.aload_n 1, 1) := by decide +kernel
theorem dL_law_475 : decode cL_law 475 = .ok (.iconst 1, 1) := by decide +kernel
theorem dL_law_476 : decode cL_law 476 = .ok (.iconst 1, 1) := by decide +kernel
theorem dL_law_477 : decode cL_law 477 = .ok (.invokevirtual 45, 3) := by decide +kernel
theorem dL_law_480 : decode cL_law 480 = .ok (.ifCond .gt 12, 3) := by decide +kernel
theorem dL_law_483 : decode cL_law 483 = .ok (.aload_n 1, 1) := by decide +kernel
theorem dL_law_484 : decode cL_law 484 = .ok (.iconst 0, 1) := by decide +kernel
theorem dL_law_485 : decode cL_law 485 = .ok (.invokevirtual 77, 3) := by decide +kernel
theorem dL_law_488 : decode cL_law 488 = .ok (.iconst 1, 1) := by decide +kernel
theorem dL_law_489 : decode cL_law 489 = .ok (.if_icmp .ne 7, 3) := by decide +kernel
theorem dL_law_492 : decode cL_law 492 = .ok (.iconst 1, 1) := by decide +kernel
theorem dL_law_493 : decode cL_law 493 = .ok (.goto 4, 3) := by decide +kernel
theorem dL_law_496 : decode cL_law 496 = .ok (.iconst 0, 1) := by decide +kernel
theorem dL_law_497 : decode cL_law 497 = .ok (.istore_n 2, 1) := by decide +kernel
theorem dL_law_498 : decode cL_law 498 = .ok (.iinc 4 1, 3) := by decide +kernel
theorem dL_law_501 : decode cL_law 501 = .ok (.goto (-467), 3) := by decide +kernel
theorem dL_law_504 : decode cL_law 504 = .ok (.iload_n 2, 1) := by decide +kernel
theorem dL_law_505 : decode cL_law 505 = .ok (.ireturn, 1) := by decide +kernel
