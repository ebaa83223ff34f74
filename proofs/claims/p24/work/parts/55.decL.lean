/-! decode rows, by program: the law -/
theorem dL_cell_0 : decode cL_cell 0 = .ok (.iload_n 1, 1) := by decide +kernel
theorem dL_cell_1 : decode cL_cell 1 = .ok (.aload_n 0, 1) := by decide +kernel
theorem dL_cell_2 : decode cL_cell 2 = .ok (.arraylength, 1) := by decide +kernel
theorem dL_cell_3 : decode cL_cell 3 = .ok (.if_icmp .ge 9, 3) := by decide +kernel
theorem dL_cell_6 : decode cL_cell 6 = .ok (.aload_n 0, 1) := by decide +kernel
theorem dL_cell_7 : decode cL_cell 7 = .ok (.iload_n 1, 1) := by decide +kernel
theorem dL_cell_8 : decode cL_cell 8 = .ok (.iaload, 1) := by decide +kernel
theorem dL_cell_9 : decode cL_cell 9 = .ok (.goto 15, 3) := by decide +kernel
theorem dL_cell_12 : decode cL_cell 12 = .ok (.sipush 7919, 3) := by decide +kernel
theorem dL_cell_15 : decode cL_cell 15 = .ok (.iload_n 1, 1) := by decide +kernel
theorem dL_cell_16 : decode cL_cell 16 = .ok (.iconst 3, 1) := by decide +kernel
theorem dL_cell_17 : decode cL_cell 17 = .ok (.iadd, 1) := by decide +kernel
theorem dL_cell_18 : decode cL_cell 18 = .ok (.imul, 1) := by decide +kernel
theorem dL_cell_19 : decode cL_cell 19 = .ok (.iload_n 1, 1) := by decide +kernel
theorem dL_cell_20 : decode cL_cell 20 = .ok (.bipush 11, 2) := by decide +kernel
theorem dL_cell_22 : decode cL_cell 22 = .ok (.iadd, 1) := by decide +kernel
theorem dL_cell_23 : decode cL_cell 23 = .ok (.imul, 1) := by decide +kernel
theorem dL_cell_24 : decode cL_cell 24 = .ok (.ireturn, 1) := by decide +kernel
theorem dL_low_0 : decode cL_low 0 = .ok (.iload_n 0, 1) := by decide +kernel
theorem dL_low_1 : decode cL_low 1 = .ok (.ldc 7, 2) := by decide +kernel
theorem dL_low_3 : decode cL_low 3 = .ok (.iand, 1) := by decide +kernel
theorem dL_low_4 : decode cL_low 4 = .ok (.iload_n 1, 1) := by decide +kernel
theorem dL_low_5 : decode cL_low 5 = .ok (.irem, 1) := by decide +kernel
theorem dL_low_6 : decode cL_low 6 = .ok (.ireturn, 1) := by decide +kernel
theorem dL_told_0 : decode cL_told 0 = .ok (.ldc2_w 8, 3) := by decide +kernel
theorem dL_told_3 : decode cL_told 3 = .ok (.lstore_n 1, 1) := by decide +kernel
theorem dL_told_4 : decode cL_told 4 = .ok (.iconst 0, 1) := by decide +kernel
theorem dL_told_5 : decode cL_told 5 = .ok (.istore_n 3, 1) := by decide +kernel
theorem dL_told_6 : decode cL_told 6 = .ok (.iload_n 3, 1) := by decide +kernel
theorem dL_told_7 : decode cL_told 7 = .ok (.bipush 8, 2) := by decide +kernel
theorem dL_told_9 : decode cL_told 9 = .ok (.if_icmp .ge 22, 3) := by decide +kernel
theorem dL_told_12 : decode cL_told 12 = .ok (.ldc2_w 10, 3) := by decide +kernel
theorem dL_told_15 : decode cL_told 15 = .ok (.lload_n 1, 1) := by decide +kernel
theorem dL_told_16 : decode cL_told 16 = .ok (.lmul, 1) := by decide +kernel
theorem dL_told_17 : decode cL_told 17 = .ok (.aload_n 0, 1) := by decide +kernel
theorem dL_told_18 : decode cL_told 18 = .ok (.iload_n 3, 1) := by decide +kernel
theorem dL_told_19 : decode cL_told 19 = .ok (.invokevirtual 12, 3) := by decide +kernel
theorem dL_told_22 : decode cL_told 22 = .ok (.i2l, 1) := by decide +kernel
theorem dL_told_23 : decode cL_told 23 = .ok (.ladd, 1) := by decide +kernel
theorem dL_told_24 : decode cL_told 24 = .ok (.lstore_n 1, 1) := by decide +kernel
theorem dL_told_25 : decode cL_told 25 = .ok (.iinc 3 1, 3) := by decide +kernel
theorem dL_told_28 : decode cL_told 28 = .ok (.goto (-22), 3) := by decide +kernel
theorem dL_told_31 : decode cL_told 31 = .ok (.iconst 0, 1) := by decide +kernel
theorem dL_told_32 : decode cL_told 32 = .ok (.istore_n 3, 1) := by decide +kernel
theorem dL_told_33 : decode cL_told 33 = .ok (.iload_n 3, 1) := by decide +kernel
theorem dL_told_34 : decode cL_told 34 = .ok (.iconst 5, 1) := by decide +kernel
theorem dL_told_35 : decode cL_told 35 = .ok (.if_icmp .ge 22, 3) := by decide +kernel
theorem dL_told_38 : decode cL_told 38 = .ok (.ldc2_w 10, 3) := by decide +kernel
theorem dL_told_41 : decode cL_told 41 = .ok (.lload_n 1, 1) := by decide +kernel
theorem dL_told_42 : decode cL_told 42 = .ok (.lmul, 1) := by decide +kernel
theorem dL_told_43 : decode cL_told 43 = .ok (.aload_n 0, 1) := by decide +kernel
theorem dL_told_44 : decode cL_told 44 = .ok (.iload_n 3, 1) := by decide +kernel
theorem dL_told_45 : decode cL_told 45 = .ok (.invokevirtual 18, 3) := by decide +kernel
theorem dL_told_48 : decode cL_told 48 = .ok (.i2l, 1) := by decide +kernel
theorem dL_told_49 : decode cL_told 49 = .ok (.ladd, 1) := by decide +kernel
theorem dL_told_50 : decode cL_told 50 = .ok (.lstore_n 1, 1) := by decide +kernel
theorem dL_told_51 : decode cL_told 51 = .ok (.iinc 3 1, 3) := by decide +kernel
theorem dL_told_54 : decode cL_told 54 = .ok (.goto (-21), 3) := by decide +kernel
theorem dL_told_57 : decode cL_told 57 = .ok (.iconst 0, 1) := by decide +kernel
theorem dL_told_58 : decode cL_told 58 = .ok (.istore_n 3, 1) := by decide +kernel
theorem dL_told_59 : decode cL_told 59 = .ok (.iload_n 3, 1) := by decide +kernel
theorem dL_told_60 : decode cL_told 60 = .ok (.iconst 4, 1) := by decide +kernel
theorem dL_told_61 : decode cL_told 61 = .ok (.if_icmp .ge 66, 3) := by decide +kernel
theorem dL_told_64 : decode cL_told 64 = .ok (.iconst 0, 1) := by decide +kernel
theorem dL_told_65 : decode cL_told 65 = .ok (.istore 4, 2) := by decide +kernel
theorem dL_told_67 : decode cL_told 67 = .ok (.iload 4, 2) := by decide +kernel
theorem dL_told_69 : decode cL_told 69 = .ok (.bipush 11, 2) := by decide +kernel
theorem dL_told_71 : decode cL_told 71 = .ok (.if_icmp .ge 24, 3) := by decide +kernel
theorem dL_told_74 : decode cL_told 74 = .ok (.ldc2_w 10, 3) := by decide +kernel
theorem dL_told_77 : decode cL_told 77 = .ok (.lload_n 1, 1) := by decide +kernel
theorem dL_told_78 : decode cL_told 78 = .ok (.lmul, 1) := by decide +kernel
theorem dL_told_79 : decode cL_told 79 = .ok (.aload_n 0, 1) := by decide +kernel
theorem dL_told_80 : decode cL_told 80 = .ok (.iload_n 3, 1) := by decide +kernel
theorem dL_told_81 : decode cL_told 81 = .ok (.iload 4, 2) := by decide +kernel
theorem dL_told_83 : decode cL_told 83 = .ok (.invokevirtual 21, 3) := by decide +kernel
theorem dL_told_86 : decode cL_told 86 = .ok (.i2l, 1) := by decide +kernel
theorem dL_told_87 : decode cL_told 87 = .ok (.ladd, 1) := by decide +kernel
theorem dL_told_88 : decode cL_told 88 = .ok (.lstore_n 1, 1) := by decide +kernel
theorem dL_told_89 : decode cL_told 89 = .ok (.iinc 4 1, 3) := by decide +kernel
theorem dL_told_92 : decode cL_told 92 = .ok (.goto (-25), 3) := by decide +kernel
theorem dL_told_95 : decode cL_told 95 = .ok (.ldc2_w 10, 3) := by decide +kernel
theorem dL_told_98 : decode cL_told 98 = .ok (.ldc2_w 10, 3) := by decide +kernel
theorem dL_told_101 : decode cL_told 101 = .ok (.lload_n 1, 1) := by decide +kernel
theorem dL_told_102 : decode cL_told 102 = .ok (.lmul, 1) := by decide +kernel
theorem dL_told_103 : decode cL_told 103 = .ok (.aload_n 0, 1) := by decide +kernel
theorem dL_told_104 : decode cL_told 104 = .ok (.iload_n 3, 1) := by decide +kernel
theorem dL_told_105 : decode cL_told 105 = .ok (.iconst 0, 1) := by decide +kernel
theorem dL_told_106 : decode cL_told 106 = .ok (.invokevirtual 25, 3) := by decide +kernel
theorem dL_told_109 : decode cL_told 109 = .ok (.i2l, 1) := by decide +kernel
theorem dL_told_110 : decode cL_told 110 = .ok (.ladd, 1) := by decide +kernel
theorem dL_told_111 : decode cL_told 111 = .ok (.lmul, 1) := by decide +kernel
theorem dL_told_112 : decode cL_told 112 = .ok (.aload_n 0, 1) := by decide +kernel
theorem dL_told_113 : decode cL_told 113 = .ok (.iload_n 3, 1) := by decide +kernel
theorem dL_told_114 : decode cL_told 114 = .ok (.iconst 1, 1) := by decide +kernel
theorem dL_told_115 : decode cL_told 115 = .ok (.invokevirtual 25, 3) := by decide +kernel
theorem dL_told_118 : decode cL_told 118 = .ok (.i2l, 1) := by decide +kernel
theorem dL_told_119 : decode cL_told 119 = .ok (.ladd, 1) := by decide +kernel
theorem dL_told_120 : decode cL_told 120 = .ok (.lstore_n 1, 1) := by decide +kernel
theorem dL_told_121 : decode cL_told 121 = .ok (.iinc 3 1, 3) := by decide +kernel
theorem dL_told_124 : decode cL_told 124 = .ok (.goto (-65), 3) := by decide +kernel
theorem dL_told_127 : decode cL_told 127 = .ok (.iconst 0, 1) := by decide +kernel
theorem dL_told_128 : decode cL_told 128 = .ok (.istore_n 3, 1) := by decide +kernel
theorem dL_told_129 : decode cL_told 129 = .ok (.iload_n 3, 1) := by decide +kernel
theorem dL_told_130 : decode cL_told 130 = .ok (.aload_n 0, 1) := by decide +kernel
theorem dL_told_131 : decode cL_told 131 = .ok (.iconst 1, 1) := by decide +kernel
theorem dL_told_132 : decode cL_told 132 = .ok (.invokevirtual 12, 3) := by decide +kernel
theorem dL_told_135 : decode cL_told 135 = .ok (.if_icmp .ge 39, 3) := by decide +kernel
theorem dL_told_138 : decode cL_told 138 = .ok (.iconst 0, 1) := by decide +kernel
theorem dL_told_139 : decode cL_told 139 = .ok (.istore 4, 2) := by decide +kernel
theorem dL_told_141 : decode cL_told 141 = .ok (.iload 4, 2) := by decide +kernel
theorem dL_told_143 : decode cL_told 143 = .ok (.iconst 4, 1) := by decide +kernel
theorem dL_told_144 : decode cL_told 144 = .ok (.if_icmp .ge 24, 3) := by decide +kernel
theorem dL_told_147 : decode cL_told 147 = .ok (.ldc2_w 10, 3) := by decide +kernel
theorem dL_told_150 : decode cL_told 150 = .ok (.lload_n 1, 1) := by decide +kernel
theorem dL_told_151 : decode cL_told 151 = .ok (.lmul, 1) := by decide +kernel
theorem dL_told_152 : decode cL_told 152 = .ok (.aload_n 0, 1) := by decide +kernel
theorem dL_told_153 : decode cL_told 153 = .ok (.iload_n 3, 1) := by decide +kernel
theorem dL_told_154 : decode cL_told 154 = .ok (.iload 4, 2) := by decide +kernel
theorem dL_told_156 : decode cL_told 156 = .ok (.invokevirtual 28, 3) := by decide +kernel
theorem dL_told_159 : decode cL_told 159 = .ok (.i2l, 1) := by decide +kernel
theorem dL_told_160 : decode cL_told 160 = .ok (.ladd, 1) := by decide +kernel
theorem dL_told_161 : decode cL_told 161 = .ok (.lstore_n 1, 1) := by decide +kernel
theorem dL_told_162 : decode cL_told 162 = .ok (.iinc 4 1, 3) := by decide +kernel
theorem dL_told_165 : decode cL_told 165 = .ok (.goto (-24), 3) := by decide +kernel
theorem dL_told_168 : decode cL_told 168 = .ok (.iinc 3 1, 3) := by decide +kernel
theorem dL_told_171 : decode cL_told 171 = .ok (.goto (-42), 3) := by decide +kernel
theorem dL_told_174 : decode cL_told 174 = .ok (.lload_n 1, 1) := by decide +kernel
theorem dL_told_175 : decode cL_told 175 = .ok (.lreturn, 1) := by decide +kernel
theorem dL_act_0 : decode cL_act 0 = .ok (.iload_n 1, 1) := by decide +kernel
theorem dL_act_1 : decode cL_act 1 = .ok (.bipush 8, 2) := by decide +kernel
theorem dL_act_3 : decode cL_act 3 = .ok (.ishr, 1) := by decide +kernel
theorem dL_act_4 : decode cL_act 4 = .ok (.iconst 1, 1) := by decide +kernel
theorem dL_act_5 : decode cL_act 5 = .ok (.iand, 1) := by decide +kernel
theorem dL_act_6 : decode cL_act 6 = .ok (.ifCond .ne 7, 3) := by decide +kernel
theorem dL_act_9 : decode cL_act 9 = .ok (.iconst 0, 1) := by decide +kernel
theorem dL_act_10 : decode cL_act 10 = .ok (.goto 8, 3) := by decide +kernel
theorem dL_act_13 : decode cL_act 13 = .ok (.iload_n 1, 1) := by decide +kernel
theorem dL_act_14 : decode cL_act 14 = .ok (.iconst 4, 1) := by decide +kernel
theorem dL_act_15 : decode cL_act 15 = .ok (.ishr, 1) := by decide +kernel
theorem dL_act_16 : decode cL_act 16 = .ok (.iconst 3, 1) := by decide +kernel
theorem dL_act_17 : decode cL_act 17 = .ok (.iand, 1) := by decide +kernel
theorem dL_act_18 : decode cL_act 18 = .ok (.istore_n 3, 1) := by decide +kernel
theorem dL_act_19 : decode cL_act 19 = .ok (.aload_n 0, 1) := by decide +kernel
theorem dL_act_20 : decode cL_act 20 = .ok (.iconst 1, 1) := by decide +kernel
theorem dL_act_21 : decode cL_act 21 = .ok (.invokevirtual 12, 3) := by decide +kernel
theorem dL_act_24 : decode cL_act 24 = .ok (.bipush 16, 2) := by decide +kernel
theorem dL_act_26 : decode cL_act 26 = .ok (.if_icmp .ge 7, 3) := by decide +kernel
theorem dL_act_29 : decode cL_act 29 = .ok (.iconst 1, 1) := by decide +kernel
theorem dL_act_30 : decode cL_act 30 = .ok (.goto 4, 3) := by decide +kernel
theorem dL_act_33 : decode cL_act 33 = .ok (.iconst 0, 1) := by decide +kernel
theorem dL_act_34 : decode cL_act 34 = .ok (.istore 4, 2) := by decide +kernel
theorem dL_act_36 : decode cL_act 36 = .ok (.iload_n 1, 1) := by decide +kernel
theorem dL_act_37 : decode cL_act 37 = .ok (.bipush 15, 2) := by decide +kernel
theorem dL_act_39 : decode cL_act 39 = .ok (.iand, 1) := by decide +kernel
theorem dL_act_40 : decode cL_act 40 = .ok (.tableswitch 317 0 8 #[52, 52, 142, 236, 253, 253, 280, 295, 295], 52) := by decide +kernel
theorem dL_act_92 : decode cL_act 92 = .ok (.aload_n 0, 1) := by decide +kernel
theorem dL_act_93 : decode cL_act 93 = .ok (.invokevirtual 31, 3) := by decide +kernel
theorem dL_act_96 : decode cL_act 96 = .ok (.pop, 1) := by decide +kernel
theorem dL_act_97 : decode cL_act 97 = .ok (.aload_n 0, 1) := by decide +kernel
theorem dL_act_98 : decode cL_act 98 = .ok (.bipush 48, 2) := by decide +kernel
theorem dL_act_100 : decode cL_act 100 = .ok (.iload_n 2, 1) := by decide +kernel
theorem dL_act_101 : decode cL_act 101 = .ok (.bipush 10, 2) := by decide +kernel
theorem dL_act_103 : decode cL_act 103 = .ok (.invokestatic 35, 3) := by decide +kernel
theorem dL_act_106 : decode cL_act 106 = .ok (.iadd, 1) := by decide +kernel
theorem dL_act_107 : decode cL_act 107 = .ok (.invokevirtual 40, 3) := by decide +kernel
theorem dL_act_110 : decode cL_act 110 = .ok (.pop, 1) := by decide +kernel
theorem dL_act_111 : decode cL_act 111 = .ok (.iload_n 2, 1) := by decide +kernel
theorem dL_act_112 : decode cL_act 112 = .ok (.iconst 4, 1) := by decide +kernel
theorem dL_act_113 : decode cL_act 113 = .ok (.ishr, 1) := by decide +kernel
theorem dL_act_114 : decode cL_act 114 = .ok (.iconst 3, 1) := by decide +kernel
theorem dL_act_115 : decode cL_act 115 = .ok (.invokestatic 35, 3) := by decide +kernel
theorem dL_act_118 : decode cL_act 118 = .ok (.istore 5, 2) := by decide +kernel
theorem dL_act_120 : decode cL_act 120 = .ok (.iload 5, 2) := by decide +kernel
theorem dL_act_122 : decode cL_act 122 = .ok (.ifCond .le 54, 3) := by decide +kernel
theorem dL_act_125 : decode cL_act 125 = .ok (.aload_n 0, 1) := by decide +kernel
theorem dL_act_126 : decode cL_act 126 = .ok (.bipush 44, 2) := by decide +kernel
theorem dL_act_128 : decode cL_act 128 = .ok (.invokevirtual 40, 3) := by decide +kernel
theorem dL_act_131 : decode cL_act 131 = .ok (.pop, 1) := by decide +kernel
theorem dL_act_132 : decode cL_act 132 = .ok (.aload_n 0, 1) := by decide +kernel
theorem dL_act_133 : decode cL_act 133 = .ok (.bipush 49, 2) := by decide +kernel
theorem dL_act_135 : decode cL_act 135 = .ok (.iload_n 2, 1) := by decide +kernel
theorem dL_act_136 : decode cL_act 136 = .ok (.iconst 3, 1) := by decide +kernel
theorem dL_act_137 : decode cL_act 137 = .ok (.iload 5, 2) := by decide +kernel
theorem dL_act_139 : decode cL_act 139 = .ok (.imul, 1) := by decide +kernel
theorem dL_act_140 : decode cL_act 140 = .ok (.ishr, 1) := by decide +kernel
theorem dL_act_141 : decode cL_act 141 = .ok (.bipush 9, 2) := by decide +kernel
theorem dL_act_143 : decode cL_act 143 = .ok (.invokestatic 35, 3) := by decide +kernel
theorem dL_act_146 : decode cL_act 146 = .ok (.iadd, 1) := by decide +kernel
theorem dL_act_147 : decode cL_act 147 = .ok (.invokevirtual 40, 3) := by decide +kernel
theorem dL_act_150 : decode cL_act 150 = .ok (.pop, 1) := by decide +kernel
theorem dL_act_151 : decode cL_act 151 = .ok (.aload_n 0, 1) := by decide +kernel
theorem dL_act_152 : decode cL_act 152 = .ok (.bipush 48, 2) := by decide +kernel
theorem dL_act_154 : decode cL_act 154 = .ok (.iload_n 2, 1) := by decide +kernel
theorem dL_act_155 : decode cL_act 155 = .ok (.iconst 4, 1) := by decide +kernel
theorem dL_act_156 : decode cL_act 156 = .ok (.iload 5, 2) := by decide +kernel
theorem dL_act_158 : decode cL_act 158 = .ok (.imul, 1) := by decide +kernel
theorem dL_act_159 : decode cL_act 159 = .ok (.ishr, 1) := by decide +kernel
theorem dL_act_160 : decode cL_act 160 = .ok (.bipush 10, 2) := by decide +kernel
theorem dL_act_162 : decode cL_act 162 = .ok (.invokestatic 35, 3) := by decide +kernel
theorem dL_act_165 : decode cL_act 165 = .ok (.iadd, 1) := by decide +kernel
theorem dL_act_166 : decode cL_act 166 = .ok (.invokevirtual 40, 3) := by decide +kernel
theorem dL_act_169 : decode cL_act 169 = .ok (.pop, 1) := by decide +kernel
theorem dL_act_170 : decode cL_act 170 = .ok (.iinc 5 (-1), 3) := by decide +kernel
theorem dL_act_173 : decode cL_act 173 = .ok (.goto (-53), 3) := by decide +kernel
theorem dL_act_176 : decode cL_act 176 = .ok (.aload_n 0, 1) := by decide +kernel
theorem dL_act_177 : decode cL_act 177 = .ok (.iload_n 3, 1) := by decide +kernel
theorem dL_act_178 : decode cL_act 178 = .ok (.invokevirtual 43, 3) := by decide +kernel
theorem dL_act_181 : decode cL_act 181 = .ok (.ireturn, 1) := by decide +kernel
theorem dL_act_182 : decode cL_act 182 = .ok (.iload_n 2, 1) := by decide +kernel
theorem dL_act_183 : decode cL_act 183 = .ok (.iconst 5, 1) := by decide +kernel
theorem dL_act_184 : decode cL_act 184 = .ok (.invokestatic 35, 3) := by decide +kernel
theorem dL_act_187 : decode cL_act 187 = .ok (.istore 5, 2) := by decide +kernel
theorem dL_act_189 : decode cL_act 189 = .ok (.iload 5, 2) := by decide +kernel
theorem dL_act_191 : decode cL_act 191 = .ok (.ifCond .ne 16, 3) := by decide +kernel
theorem dL_act_194 : decode cL_act 194 = .ok (.iconst 1, 1) := by decide +kernel
theorem dL_act_195 : decode cL_act 195 = .ok (.iload_n 2, 1) := by decide +kernel
theorem dL_act_196 : decode cL_act 196 = .ok (.iconst 3, 1) := by decide +kernel
theorem dL_act_197 : decode cL_act 197 = .ok (.ishr, 1) := by decide +kernel
theorem dL_act_198 : decode cL_act 198 = .ok (.bipush 60, 2) := by decide +kernel
theorem dL_act_200 : decode cL_act 200 = .ok (.invokestatic 35, 3) := by decide +kernel
theorem dL_act_203 : decode cL_act 203 = .ok (.iadd, 1) := by decide +kernel
theorem dL_act_204 : decode cL_act 204 = .ok (.goto 61, 3) := by decide +kernel
theorem dL_act_207 : decode cL_act 207 = .ok (.iload 5, 2) := by decide +kernel
theorem dL_act_209 : decode cL_act 209 = .ok (.iconst 1, 1) := by decide +kernel
theorem dL_act_210 : decode cL_act 210 = .ok (.if_icmp .ne 15, 3) := by decide +kernel
theorem dL_act_213 : decode cL_act 213 = .ok (.iconst 2, 1) := by decide +kernel
theorem dL_act_214 : decode cL_act 214 = .ok (.iload_n 2, 1) := by decide +kernel
theorem dL_act_215 : decode cL_act 215 = .ok (.iconst 3, 1) := by decide +kernel
theorem dL_act_216 : decode cL_act 216 = .ok (.ishr, 1) := by decide +kernel
theorem dL_act_217 : decode cL_act 217 = .ok (.iconst 5, 1) := by decide +kernel
theorem dL_act_218 : decode cL_act 218 = .ok (.invokestatic 35, 3) := by decide +kernel
theorem dL_act_221 : decode cL_act 221 = .ok (.iadd, 1) := by decide +kernel
theorem dL_act_222 : decode cL_act 222 = .ok (.goto 43, 3) := by decide +kernel
theorem dL_act_225 : decode cL_act 225 = .ok (.iload 5, 2) := by decide +kernel
theorem dL_act_227 : decode cL_act 227 = .ok (.iconst 2, 1) := by decide +kernel
theorem dL_act_228 : decode cL_act 228 = .ok (.if_icmp .ne 15, 3) := by decide +kernel
theorem dL_act_231 : decode cL_act 231 = .ok (.iconst 1, 1) := by decide +kernel
theorem dL_act_232 : decode cL_act 232 = .ok (.iload_n 2, 1) := by decide +kernel
theorem dL_act_233 : decode cL_act 233 = .ok (.iconst 3, 1) := by decide +kernel
theorem dL_act_234 : decode cL_act 234 = .ok (.ishr, 1) := by decide +kernel
theorem dL_act_235 : decode cL_act 235 = .ok (.iconst 4, 1) := by decide +kernel
theorem dL_act_236 : decode cL_act 236 = .ok (.invokestatic 35, 3) := by decide +kernel
theorem dL_act_239 : decode cL_act 239 = .ok (.iadd, 1) := by decide +kernel
theorem dL_act_240 : decode cL_act 240 = .ok (.goto 25, 3) := by decide +kernel
theorem dL_act_243 : decode cL_act 243 = .ok (.iconst 1, 1) := by decide +kernel
theorem dL_act_244 : decode cL_act 244 = .ok (.iload_n 2, 1) := by decide +kernel
theorem dL_act_245 : decode cL_act 245 = .ok (.iconst 3, 1) := by decide +kernel
theorem dL_act_246 : decode cL_act 246 = .ok (.ishr, 1) := by decide +kernel
theorem dL_act_247 : decode cL_act 247 = .ok (.iload 5, 2) := by decide +kernel
theorem dL_act_249 : decode cL_act 249 = .ok (.iconst 3, 1) := by decide +kernel
theorem dL_act_250 : decode cL_act 250 = .ok (.if_icmp .ne 8, 3) := by decide +kernel
theorem dL_act_253 : decode cL_act 253 = .ok (.bipush 30, 2) := by decide +kernel
theorem dL_act_255 : decode cL_act 255 = .ok (.goto 6, 3) := by decide +kernel
theorem dL_act_258 : decode cL_act 258 = .ok (.sipush 200, 3) := by decide +kernel
theorem dL_act_261 : decode cL_act 261 = .ok (.invokestatic 35, 3) := by decide +kernel
theorem dL_act_264 : decode cL_act 264 = .ok (.iadd, 1) := by decide +kernel
theorem dL_act_265 : decode cL_act 265 = .ok (.istore 6, 2) := by decide +kernel
theorem dL_act_267 : decode cL_act 267 = .ok (.aload_n 0, 1) := by decide +kernel
theorem dL_act_268 : decode cL_act 268 = .ok (.iload 5, 2) := by decide +kernel
theorem dL_act_270 : decode cL_act 270 = .ok (.iload 6, 2) := by decide +kernel
theorem dL_act_272 : decode cL_act 272 = .ok (.invokevirtual 46, 3) := by decide +kernel
theorem dL_act_275 : decode cL_act 275 = .ok (.ireturn, 1) := by decide +kernel
theorem dL_act_276 : decode cL_act 276 = .ok (.iload_n 2, 1) := by decide +kernel
theorem dL_act_277 : decode cL_act 277 = .ok (.iconst 3, 1) := by decide +kernel
theorem dL_act_278 : decode cL_act 278 = .ok (.iand, 1) := by decide +kernel
theorem dL_act_279 : decode cL_act 279 = .ok (.ifCond .ne 11, 3) := by decide +kernel
theorem dL_act_282 : decode cL_act 282 = .ok (.aload_n 0, 1) := by decide +kernel
theorem dL_act_283 : decode cL_act 283 = .ok (.iload_n 3, 1) := by decide +kernel
theorem dL_act_284 : decode cL_act 284 = .ok (.invokevirtual 49, 3) := by decide +kernel
theorem dL_act_287 : decode cL_act 287 = .ok (.goto 5, 3) := by decide +kernel
theorem dL_act_290 : decode cL_act 290 = .ok (.bipush (-9), 2) := by decide +kernel
theorem dL_act_292 : decode cL_act 292 = .ok (.ireturn, 1) := by decide +kernel
theorem dL_act_293 : decode cL_act 293 = .ok (.aload_n 0, 1) := by decide +kernel
theorem dL_act_294 : decode cL_act 294 = .ok (.iconst 1, 1) := by decide +kernel
theorem dL_act_295 : decode cL_act 295 = .ok (.iload_n 2, 1) := by decide +kernel
theorem dL_act_296 : decode cL_act 296 = .ok (.iload_n 2, 1) := by decide +kernel
theorem dL_act_297 : decode cL_act 297 = .ok (.bipush 8, 2) := by decide +kernel
theorem dL_act_299 : decode cL_act 299 = .ok (.ishr, 1) := by decide +kernel
theorem dL_act_300 : decode cL_act 300 = .ok (.iconst 3, 1) := by decide +kernel
theorem dL_act_301 : decode cL_act 301 = .ok (.iand, 1) := by decide +kernel
theorem dL_act_302 : decode cL_act 302 = .ok (.ifCond .ne 8, 3) := by decide +kernel
theorem dL_act_305 : decode cL_act 305 = .ok (.bipush 100, 2) := by decide +kernel
theorem dL_act_307 : decode cL_act 307 = .ok (.goto 5, 3) := by decide +kernel
theorem dL_act_310 : decode cL_act 310 = .ok (.bipush 9, 2) := by decide +kernel
theorem dL_act_312 : decode cL_act 312 = .ok (.invokestatic 35, 3) := by decide +kernel
theorem dL_act_315 : decode cL_act 315 = .ok (.iadd, 1) := by decide +kernel
theorem dL_act_316 : decode cL_act 316 = .ok (.invokevirtual 52, 3) := by decide +kernel
theorem dL_act_319 : decode cL_act 319 = .ok (.ireturn, 1) := by decide +kernel
theorem dL_act_320 : decode cL_act 320 = .ok (.iload 4, 2) := by decide +kernel
theorem dL_act_322 : decode cL_act 322 = .ok (.ifCond .eq 10, 3) := by decide +kernel
theorem dL_act_325 : decode cL_act 325 = .ok (.aload_n 0, 1) := by decide +kernel
theorem dL_act_326 : decode cL_act 326 = .ok (.invokevirtual 55, 3) := by decide +kernel
theorem dL_act_329 : decode cL_act 329 = .ok (.goto 5, 3) := by decide +kernel
theorem dL_act_332 : decode cL_act 332 = .ok (.bipush (-9), 2) := by decide +kernel
theorem dL_act_334 : decode cL_act 334 = .ok (.ireturn, 1) := by decide +kernel
theorem dL_act_335 : decode cL_act 335 = .ok (.aload_n 0, 1) := by decide +kernel
theorem dL_act_336 : decode cL_act 336 = .ok (.iload_n 3, 1) := by decide +kernel
theorem dL_act_337 : decode cL_act 337 = .ok (.iconst 1, 1) := by decide +kernel
theorem dL_act_338 : decode cL_act 338 = .ok (.iload_n 2, 1) := by decide +kernel
theorem dL_act_339 : decode cL_act 339 = .ok (.bipush 10, 2) := by decide +kernel
theorem dL_act_341 : decode cL_act 341 = .ok (.invokestatic 35, 3) := by decide +kernel
theorem dL_act_344 : decode cL_act 344 = .ok (.iadd, 1) := by decide +kernel
theorem dL_act_345 : decode cL_act 345 = .ok (.iload_n 2, 1) := by decide +kernel
theorem dL_act_346 : decode cL_act 346 = .ok (.iconst 4, 1) := by decide +kernel
theorem dL_act_347 : decode cL_act 347 = .ok (.ishr, 1) := by decide +kernel
theorem dL_act_348 : decode cL_act 348 = .ok (.bipush 6, 2) := by decide +kernel
theorem dL_act_350 : decode cL_act 350 = .ok (.invokestatic 35, 3) := by decide +kernel
theorem dL_act_353 : decode cL_act 353 = .ok (.invokevirtual 58, 3) := by decide +kernel
theorem dL_act_356 : decode cL_act 356 = .ok (.ireturn, 1) := by decide +kernel
theorem dL_act_357 : decode cL_act 357 = .ok (.iload 4, 2) := by decide +kernel
theorem dL_act_359 : decode cL_act 359 = .ok (.ifCond .ne 11, 3) := by decide +kernel
theorem dL_act_362 : decode cL_act 362 = .ok (.aload_n 0, 1) := by decide +kernel
theorem dL_act_363 : decode cL_act 363 = .ok (.iload_n 3, 1) := by decide +kernel
theorem dL_act_364 : decode cL_act 364 = .ok (.invokevirtual 62, 3) := by decide +kernel
theorem dL_act_367 : decode cL_act 367 = .ok (.ifCond .eq 11, 3) := by decide +kernel
theorem dL_act_370 : decode cL_act 370 = .ok (.aload_n 0, 1) := by decide +kernel
theorem dL_act_371 : decode cL_act 371 = .ok (.iload_n 3, 1) := by decide +kernel
theorem dL_act_372 : decode cL_act 372 = .ok (.invokevirtual 65, 3) := by decide +kernel
theorem dL_act_375 : decode cL_act 375 = .ok (.goto 5, 3) := by decide +kernel
theorem dL_act_378 : decode cL_act 378 = .ok (.bipush (-9), 2) := by decide +kernel
theorem dL_act_380 : decode cL_act 380 = .ok (.ireturn, 1) := by decide +kernel
theorem dL_holds_0 : decode cL_holds 0 = .ok (.iconst 0, 1) := by decide +kernel
theorem dL_holds_1 : decode cL_holds 1 = .ok (.istore_n 1, 1) := by decide +kernel
theorem dL_holds_2 : decode cL_holds 2 = .ok (.iconst 4, 1) := by decide +kernel
theorem dL_holds_3 : decode cL_holds 3 = .ok (.newarray .int, 2) := by decide +kernel
theorem dL_holds_5 : decode cL_holds 5 = .ok (.astore_n 2, 1) := by decide +kernel
theorem dL_holds_6 : decode cL_holds 6 = .ok (.iconst 0, 1) := by decide +kernel
theorem dL_holds_7 : decode cL_holds 7 = .ok (.istore_n 3, 1) := by decide +kernel
theorem dL_holds_8 : decode cL_holds 8 = .ok (.iload_n 3, 1) := by decide +kernel
theorem dL_holds_9 : decode cL_holds 9 = .ok (.aload_n 0, 1) := by decide +kernel
theorem dL_holds_10 : decode cL_holds 10 = .ok (.iconst 1, 1) := by decide +kernel
theorem dL_holds_11 : decode cL_holds 11 = .ok (.invokevirtual 12, 3) := by decide +kernel
theorem dL_holds_14 : decode cL_holds 14 = .ok (.if_icmp .ge 70, 3) := by decide +kernel
theorem dL_holds_17 : decode cL_holds 17 = .ok (.aload_n 0, 1) := by decide +kernel
theorem dL_holds_18 : decode cL_holds 18 = .ok (.iload_n 3, 1) := by decide +kernel
theorem dL_holds_19 : decode cL_holds 19 = .ok (.iconst 0, 1) := by decide +kernel
theorem dL_holds_20 : decode cL_holds 20 = .ok (.invokevirtual 28, 3) := by decide +kernel
theorem dL_holds_23 : decode cL_holds 23 = .ok (.istore 4, 2) := by decide +kernel
theorem dL_holds_25 : decode cL_holds 25 = .ok (.aload_n 2, 1) := by decide +kernel
theorem dL_holds_26 : decode cL_holds 26 = .ok (.iload 4, 2) := by decide +kernel
theorem dL_holds_28 : decode cL_holds 28 = .ok (.dup2, 1) := by decide +kernel
theorem dL_holds_29 : decode cL_holds 29 = .ok (.iaload, 1) := by decide +kernel
theorem dL_holds_30 : decode cL_holds 30 = .ok (.iconst 1, 1) := by decide +kernel
theorem dL_holds_31 : decode cL_holds 31 = .ok (.iadd, 1) := by decide +kernel
theorem dL_holds_32 : decode cL_holds 32 = .ok (.iastore, 1) := by decide +kernel
theorem dL_holds_33 : decode cL_holds 33 = .ok (.aload_n 0, 1) := by decide +kernel
theorem dL_holds_34 : decode cL_holds 34 = .ok (.iload_n 3, 1) := by decide +kernel
theorem dL_holds_35 : decode cL_holds 35 = .ok (.iconst 3, 1) := by decide +kernel
theorem dL_holds_36 : decode cL_holds 36 = .ok (.invokevirtual 28, 3) := by decide +kernel
theorem dL_holds_39 : decode cL_holds 39 = .ok (.iconst 1, 1) := by decide +kernel
theorem dL_holds_40 : decode cL_holds 40 = .ok (.if_icmp .ne 26, 3) := by decide +kernel
theorem dL_holds_43 : decode cL_holds 43 = .ok (.aload_n 0, 1) := by decide +kernel
theorem dL_holds_44 : decode cL_holds 44 = .ok (.iload 4, 2) := by decide +kernel
theorem dL_holds_46 : decode cL_holds 46 = .ok (.iconst 0, 1) := by decide +kernel
theorem dL_holds_47 : decode cL_holds 47 = .ok (.invokevirtual 21, 3) := by decide +kernel
theorem dL_holds_50 : decode cL_holds 50 = .ok (.iconst 2, 1) := by decide +kernel
theorem dL_holds_51 : decode cL_holds 51 = .ok (.if_icmp .ne 13, 3) := by decide +kernel
theorem dL_holds_54 : decode cL_holds 54 = .ok (.iload_n 1, 1) := by decide +kernel
theorem dL_holds_55 : decode cL_holds 55 = .ok (.iload 4, 2) := by decide +kernel
theorem dL_holds_57 : decode cL_holds 57 = .ok (.ishr, 1) := by decide +kernel
theorem dL_holds_58 : decode cL_holds 58 = .ok (.iconst 1, 1) := by decide +kernel
theorem dL_holds_59 : decode cL_holds 59 = .ok (.iand, 1) := by decide +kernel
theorem dL_holds_60 : decode cL_holds 60 = .ok (.iconst 1, 1) := by decide +kernel
theorem dL_holds_61 : decode cL_holds 61 = .ok (.if_icmp .ne 5, 3) := by decide +kernel
theorem dL_holds_64 : decode cL_holds 64 = .ok (.iconst 0, 1) := by decide +kernel
theorem dL_holds_65 : decode cL_holds 65 = .ok (.ireturn, 1) := by decide +kernel
theorem dL_holds_66 : decode cL_holds 66 = .ok (.iload_n 1, 1) := by decide +kernel
theorem dL_holds_67 : decode cL_holds 67 = .ok (.aload_n 0, 1) := by decide +kernel
theorem dL_holds_68 : decode cL_holds 68 = .ok (.iload_n 3, 1) := by decide +kernel
theorem dL_holds_69 : decode cL_holds 69 = .ok (.iconst 3, 1) := by decide +kernel
theorem dL_holds_70 : decode cL_holds 70 = .ok (.invokevirtual 28, 3) := by decide +kernel
theorem dL_holds_73 : decode cL_holds 73 = .ok (.iload 4, 2) := by decide +kernel
theorem dL_holds_75 : decode cL_holds 75 = .ok (.ishl, 1) := by decide +kernel
theorem dL_holds_76 : decode cL_holds 76 = .ok (.ior, 1) := by decide +kernel
theorem dL_holds_77 : decode cL_holds 77 = .ok (.istore_n 1, 1) := by decide +kernel
theorem dL_holds_78 : decode cL_holds 78 = .ok (.iinc 3 1, 3) := by decide +kernel
theorem dL_holds_81 : decode cL_holds 81 = .ok (.goto (-73), 3) := by decide +kernel
theorem dL_holds_84 : decode cL_holds 84 = .ok (.iconst 0, 1) := by decide +kernel
theorem dL_holds_85 : decode cL_holds 85 = .ok (.istore_n 3, 1) := by decide +kernel
theorem dL_holds_86 : decode cL_holds 86 = .ok (.iconst 0, 1) := by decide +kernel
theorem dL_holds_87 : decode cL_holds 87 = .ok (.istore 4, 2) := by decide +kernel
theorem dL_holds_89 : decode cL_holds 89 = .ok (.iconst 0, 1) := by decide +kernel
theorem dL_holds_90 : decode cL_holds 90 = .ok (.istore 5, 2) := by decide +kernel
theorem dL_holds_92 : decode cL_holds 92 = .ok (.iconst 0, 1) := by decide +kernel
theorem dL_holds_93 : decode cL_holds 93 = .ok (.istore 6, 2) := by decide +kernel
theorem dL_holds_95 : decode cL_holds 95 = .ok (.iconst 0, 1) := by decide +kernel
theorem dL_holds_96 : decode cL_holds 96 = .ok (.istore 7, 2) := by decide +kernel
theorem dL_holds_98 : decode cL_holds 98 = .ok (.iload 7, 2) := by decide +kernel
theorem dL_holds_100 : decode cL_holds 100 = .ok (.iconst 4, 1) := by decide +kernel
theorem dL_holds_101 : decode cL_holds 101 = .ok (.if_icmp .ge 299, 3) := by decide +kernel
theorem dL_holds_104 : decode cL_holds 104 = .ok (.aload_n 0, 1) := by decide +kernel
theorem dL_holds_105 : decode cL_holds 105 = .ok (.iload 7, 2) := by decide +kernel
theorem dL_holds_107 : decode cL_holds 107 = .ok (.iconst 0, 1) := by decide +kernel
theorem dL_holds_108 : decode cL_holds 108 = .ok (.invokevirtual 21, 3) := by decide +kernel
theorem dL_holds_111 : decode cL_holds 111 = .ok (.istore 8, 2) := by decide +kernel
theorem dL_holds_113 : decode cL_holds 113 = .ok (.iload_n 3, 1) := by decide +kernel
theorem dL_holds_114 : decode cL_holds 114 = .ok (.aload_n 0, 1) := by decide +kernel
theorem dL_holds_115 : decode cL_holds 115 = .ok (.iload 7, 2) := by decide +kernel
theorem dL_holds_117 : decode cL_holds 117 = .ok (.iconst 5, 1) := by decide +kernel
theorem dL_holds_118 : decode cL_holds 118 = .ok (.invokevirtual 21, 3) := by decide +kernel
theorem dL_holds_121 : decode cL_holds 121 = .ok (.iadd, 1) := by decide +kernel
theorem dL_holds_122 : decode cL_holds 122 = .ok (.istore_n 3, 1) := by decide +kernel
theorem dL_holds_123 : decode cL_holds 123 = .ok (.iload 4, 2) := by decide +kernel
theorem dL_holds_125 : decode cL_holds 125 = .ok (.aload_n 0, 1) := by decide +kernel
theorem dL_holds_126 : decode cL_holds 126 = .ok (.iload 7, 2) := by decide +kernel
theorem dL_holds_128 : decode cL_holds 128 = .ok (.bipush 6, 2) := by decide +kernel
theorem dL_holds_130 : decode cL_holds 130 = .ok (.invokevirtual 21, 3) := by decide +kernel
theorem dL_holds_133 : decode cL_holds 133 = .ok (.iadd, 1) := by decide +kernel
theorem dL_holds_134 : decode cL_holds 134 = .ok (.istore 4, 2) := by decide +kernel
theorem dL_holds_136 : decode cL_holds 136 = .ok (.iload 5, 2) := by decide +kernel
theorem dL_holds_138 : decode cL_holds 138 = .ok (.aload_n 0, 1) := by decide +kernel
theorem dL_holds_139 : decode cL_holds 139 = .ok (.iload 7, 2) := by decide +kernel
theorem dL_holds_141 : decode cL_holds 141 = .ok (.bipush 7, 2) := by decide +kernel
theorem dL_holds_143 : decode cL_holds 143 = .ok (.invokevirtual 21, 3) := by decide +kernel
theorem dL_holds_146 : decode cL_holds 146 = .ok (.iadd, 1) := by decide +kernel
theorem dL_holds_147 : decode cL_holds 147 = .ok (.istore 5, 2) := by decide +kernel
theorem dL_holds_149 : decode cL_holds 149 = .ok (.iload 6, 2) := by decide +kernel
theorem dL_holds_151 : decode cL_holds 151 = .ok (.iload 8, 2) := by decide +kernel
theorem dL_holds_153 : decode cL_holds 153 = .ok (.ifCond .ne 7, 3) := by decide +kernel
theorem dL_holds_156 : decode cL_holds 156 = .ok (.iconst 1, 1) := by decide +kernel
theorem dL_holds_157 : decode cL_holds 157 = .ok (.goto 4, 3) := by decide +kernel
theorem dL_holds_160 : decode cL_holds 160 = .ok (.iconst 0, 1) := by decide +kernel
theorem dL_holds_161 : decode cL_holds 161 = .ok (.iadd, 1) := by decide +kernel
theorem dL_holds_162 : decode cL_holds 162 = .ok (.istore 6, 2) := by decide +kernel
theorem dL_holds_164 : decode cL_holds 164 = .ok (.aload_n 0, 1) := by decide +kernel
theorem dL_holds_165 : decode cL_holds 165 = .ok (.iload 7, 2) := by decide +kernel
theorem dL_holds_167 : decode cL_holds 167 = .ok (.invokevirtual 62, 3) := by decide +kernel
theorem dL_holds_170 : decode cL_holds 170 = .ok (.istore 9, 2) := by decide +kernel
theorem dL_holds_172 : decode cL_holds 172 = .ok (.iload 8, 2) := by decide +kernel
theorem dL_holds_174 : decode cL_holds 174 = .ok (.iconst 1, 1) := by decide +kernel
theorem dL_holds_175 : decode cL_holds 175 = .ok (.if_icmp .ne 50, 3) := by decide +kernel
theorem dL_holds_178 : decode cL_holds 178 = .ok (.aload_n 0, 1) := by decide +kernel
theorem dL_holds_179 : decode cL_holds 179 = .ok (.iload 7, 2) := by decide +kernel
theorem dL_holds_181 : decode cL_holds 181 = .ok (.iconst 3, 1) := by decide +kernel
theorem dL_holds_182 : decode cL_holds 182 = .ok (.invokevirtual 21, 3) := by decide +kernel
theorem dL_holds_185 : decode cL_holds 185 = .ok (.ifCond .le 36, 3) := by decide +kernel
theorem dL_holds_188 : decode cL_holds 188 = .ok (.aload_n 0, 1) := by decide +kernel
theorem dL_holds_189 : decode cL_holds 189 = .ok (.iload 7, 2) := by decide +kernel
theorem dL_holds_191 : decode cL_holds 191 = .ok (.iconst 3, 1) := by decide +kernel
theorem dL_holds_192 : decode cL_holds 192 = .ok (.invokevirtual 21, 3) := by decide +kernel
theorem dL_holds_195 : decode cL_holds 195 = .ok (.aload_n 0, 1) := by decide +kernel
theorem dL_holds_196 : decode cL_holds 196 = .ok (.iload 7, 2) := by decide +kernel
theorem dL_holds_198 : decode cL_holds 198 = .ok (.iconst 4, 1) := by decide +kernel
theorem dL_holds_199 : decode cL_holds 199 = .ok (.invokevirtual 21, 3) := by decide +kernel
theorem dL_holds_202 : decode cL_holds 202 = .ok (.if_icmp .gt 19, 3) := by decide +kernel
theorem dL_holds_205 : decode cL_holds 205 = .ok (.iload 9, 2) := by decide +kernel
theorem dL_holds_207 : decode cL_holds 207 = .ok (.aload_n 0, 1) := by decide +kernel
theorem dL_holds_208 : decode cL_holds 208 = .ok (.iload 7, 2) := by decide +kernel
theorem dL_holds_210 : decode cL_holds 210 = .ok (.iconst 3, 1) := by decide +kernel
theorem dL_holds_211 : decode cL_holds 211 = .ok (.invokevirtual 21, 3) := by decide +kernel
theorem dL_holds_214 : decode cL_holds 214 = .ok (.if_icmp .ne 7, 3) := by decide +kernel
theorem dL_holds_217 : decode cL_holds 217 = .ok (.iconst 1, 1) := by decide +kernel
theorem dL_holds_218 : decode cL_holds 218 = .ok (.goto 22, 3) := by decide +kernel
theorem dL_holds_221 : decode cL_holds 221 = .ok (.iconst 0, 1) := by decide +kernel
theorem dL_holds_222 : decode cL_holds 222 = .ok (.goto 18, 3) := by decide +kernel
theorem dL_holds_225 : decode cL_holds 225 = .ok (.aload_n 0, 1) := by decide +kernel
theorem dL_holds_226 : decode cL_holds 226 = .ok (.iload 7, 2) := by decide +kernel
theorem dL_holds_228 : decode cL_holds 228 = .ok (.iconst 3, 1) := by decide +kernel
theorem dL_holds_229 : decode cL_holds 229 = .ok (.invokevirtual 21, 3) := by decide +kernel
theorem dL_holds_232 : decode cL_holds 232 = .ok (.ifCond .ne 7, 3) := by decide +kernel
theorem dL_holds_235 : decode cL_holds 235 = .ok (.iconst 1, 1) := by decide +kernel
theorem dL_holds_236 : decode cL_holds 236 = .ok (.goto 4, 3) := by decide +kernel
theorem dL_holds_239 : decode cL_holds 239 = .ok (.iconst 0, 1) := by decide +kernel
theorem dL_holds_240 : decode cL_holds 240 = .ok (.istore 10, 2) := by decide +kernel
theorem dL_holds_242 : decode cL_holds 242 = .ok (.aload_n 0, 1) := by decide +kernel
theorem dL_holds_243 : decode cL_holds 243 = .ok (.iload 7, 2) := by decide +kernel
theorem dL_holds_245 : decode cL_holds 245 = .ok (.iconst 1, 1) := by decide +kernel
theorem dL_holds_246 : decode cL_holds 246 = .ok (.invokevirtual 21, 3) := by decide +kernel
theorem dL_holds_249 : decode cL_holds 249 = .ok (.aload_n 0, 1) := by decide +kernel
theorem dL_holds_250 : decode cL_holds 250 = .ok (.iconst 1, 1) := by decide +kernel
theorem dL_holds_251 : decode cL_holds 251 = .ok (.invokevirtual 18, 3) := by decide +kernel
theorem dL_holds_254 : decode cL_holds 254 = .ok (.if_icmp .gt 67, 3) := by decide +kernel
theorem dL_holds_257 : decode cL_holds 257 = .ok (.aload_n 0, 1) := by decide +kernel
theorem dL_holds_258 : decode cL_holds 258 = .ok (.iload 7, 2) := by decide +kernel
theorem dL_holds_260 : decode cL_holds 260 = .ok (.iconst 2, 1) := by decide +kernel
theorem dL_holds_261 : decode cL_holds 261 = .ok (.invokevirtual 21, 3) := by decide +kernel
theorem dL_holds_264 : decode cL_holds 264 = .ok (.aload_n 0, 1) := by decide +kernel
theorem dL_holds_265 : decode cL_holds 265 = .ok (.iload 7, 2) := by decide +kernel
theorem dL_holds_267 : decode cL_holds 267 = .ok (.iconst 1, 1) := by decide +kernel
theorem dL_holds_268 : decode cL_holds 268 = .ok (.invokevirtual 21, 3) := by decide +kernel
theorem dL_holds_271 : decode cL_holds 271 = .ok (.if_icmp .gt 50, 3) := by decide +kernel
theorem dL_holds_274 : decode cL_holds 274 = .ok (.aload_n 0, 1) := by decide +kernel
theorem dL_holds_275 : decode cL_holds 275 = .ok (.iload 7, 2) := by decide +kernel
theorem dL_holds_277 : decode cL_holds 277 = .ok (.bipush 8, 2) := by decide +kernel
theorem dL_holds_279 : decode cL_holds 279 = .ok (.invokevirtual 21, 3) := by decide +kernel
theorem dL_holds_282 : decode cL_holds 282 = .ok (.aload_n 2, 1) := by decide +kernel
theorem dL_holds_283 : decode cL_holds 283 = .ok (.iload 7, 2) := by decide +kernel
theorem dL_holds_285 : decode cL_holds 285 = .ok (.iaload, 1) := by decide +kernel
theorem dL_holds_286 : decode cL_holds 286 = .ok (.if_icmp .ne 35, 3) := by decide +kernel
theorem dL_holds_289 : decode cL_holds 289 = .ok (.iload 8, 2) := by decide +kernel
theorem dL_holds_291 : decode cL_holds 291 = .ok (.ifCond .ne 7, 3) := by decide +kernel
theorem dL_holds_294 : decode cL_holds 294 = .ok (.iconst 1, 1) := by decide +kernel
theorem dL_holds_295 : decode cL_holds 295 = .ok (.goto 4, 3) := by decide +kernel
theorem dL_holds_298 : decode cL_holds 298 = .ok (.iconst 0, 1) := by decide +kernel
theorem dL_holds_299 : decode cL_holds 299 = .ok (.aload_n 0, 1) := by decide +kernel
theorem dL_holds_300 : decode cL_holds 300 = .ok (.iload 7, 2) := by decide +kernel
theorem dL_holds_302 : decode cL_holds 302 = .ok (.iconst 4, 1) := by decide +kernel
theorem dL_holds_303 : decode cL_holds 303 = .ok (.invokevirtual 21, 3) := by decide +kernel
theorem dL_holds_306 : decode cL_holds 306 = .ok (.ifCond .ne 7, 3) := by decide +kernel
theorem dL_holds_309 : decode cL_holds 309 = .ok (.iconst 1, 1) := by decide +kernel
theorem dL_holds_310 : decode cL_holds 310 = .ok (.goto 4, 3) := by decide +kernel
theorem dL_holds_313 : decode cL_holds 313 = .ok (.iconst 0, 1) := by decide +kernel
theorem dL_holds_314 : decode cL_holds 314 = .ok (.if_icmp .ne 7, 3) := by decide +kernel
theorem dL_holds_317 : decode cL_holds 317 = .ok (.iconst 1, 1) := by decide +kernel
theorem dL_holds_318 : decode cL_holds 318 = .ok (.goto 4, 3) := by decide +kernel
theorem dL_holds_321 : decode cL_holds 321 = .ok (.iconst 0, 1) := by decide +kernel
theorem dL_holds_322 : decode cL_holds 322 = .ok (.istore 11, 2) := by decide +kernel
theorem dL_holds_324 : decode cL_holds 324 = .ok (.iload 10, 2) := by decide +kernel
theorem dL_holds_326 : decode cL_holds 326 = .ok (.ifCond .eq 66, 3) := by decide +kernel
theorem dL_holds_329 : decode cL_holds 329 = .ok (.iload 11, 2) := by decide +kernel
theorem dL_holds_331 : decode cL_holds 331 = .ok (.ifCond .eq 61, 3) := by decide +kernel
theorem dL_holds_334 : decode cL_holds 334 = .ok (.iload 8, 2) := by decide +kernel
theorem dL_holds_336 : decode cL_holds 336 = .ok (.ifCond .ne 8, 3) := by decide +kernel
theorem dL_holds_339 : decode cL_holds 339 = .ok (.iload 9, 2) := by decide +kernel
theorem dL_holds_341 : decode cL_holds 341 = .ok (.ifCond .ne 51, 3) := by decide +kernel
theorem dL_holds_344 : decode cL_holds 344 = .ok (.iload 8, 2) := by decide +kernel
theorem dL_holds_346 : decode cL_holds 346 = .ok (.iconst 2, 1) := by decide +kernel
theorem dL_holds_347 : decode cL_holds 347 = .ok (.if_icmp .ne 30, 3) := by decide +kernel
theorem dL_holds_350 : decode cL_holds 350 = .ok (.iload 9, 2) := by decide +kernel
theorem dL_holds_352 : decode cL_holds 352 = .ok (.ifCond .ne 7, 3) := by decide +kernel
theorem dL_holds_355 : decode cL_holds 355 = .ok (.iconst 1, 1) := by decide +kernel
theorem dL_holds_356 : decode cL_holds 356 = .ok (.goto 4, 3) := by decide +kernel
theorem dL_holds_359 : decode cL_holds 359 = .ok (.iconst 0, 1) := by decide +kernel
theorem dL_holds_360 : decode cL_holds 360 = .ok (.iload_n 1, 1) := by decide +kernel
theorem dL_holds_361 : decode cL_holds 361 = .ok (.iload 7, 2) := by decide +kernel
theorem dL_holds_363 : decode cL_holds 363 = .ok (.ishr, 1) := by decide +kernel
theorem dL_holds_364 : decode cL_holds 364 = .ok (.iconst 1, 1) := by decide +kernel
theorem dL_holds_365 : decode cL_holds 365 = .ok (.iand, 1) := by decide +kernel
theorem dL_holds_366 : decode cL_holds 366 = .ok (.ifCond .ne 7, 3) := by decide +kernel
theorem dL_holds_369 : decode cL_holds 369 = .ok (.iconst 1, 1) := by decide +kernel
theorem dL_holds_370 : decode cL_holds 370 = .ok (.goto 4, 3) := by decide +kernel
theorem dL_holds_373 : decode cL_holds 373 = .ok (.iconst 0, 1) := by decide +kernel
theorem dL_holds_374 : decode cL_holds 374 = .ok (.if_icmp .ne 18, 3) := by decide +kernel
theorem dL_holds_377 : decode cL_holds 377 = .ok (.iload 8, 2) := by decide +kernel
theorem dL_holds_379 : decode cL_holds 379 = .ok (.ifCond .le 15, 3) := by decide +kernel
theorem dL_holds_382 : decode cL_holds 382 = .ok (.aload_n 0, 1) := by decide +kernel
theorem dL_holds_383 : decode cL_holds 383 = .ok (.iload 7, 2) := by decide +kernel
theorem dL_holds_385 : decode cL_holds 385 = .ok (.iconst 1, 1) := by decide +kernel
theorem dL_holds_386 : decode cL_holds 386 = .ok (.invokevirtual 21, 3) := by decide +kernel
theorem dL_holds_389 : decode cL_holds 389 = .ok (.ifCond .le 5, 3) := by decide +kernel
theorem dL_holds_392 : decode cL_holds 392 = .ok (.iconst 0, 1) := by decide +kernel
theorem dL_holds_393 : decode cL_holds 393 = .ok (.ireturn, 1) := by decide +kernel
theorem dL_holds_394 : decode cL_holds 394 = .ok (.iinc 7 1, 3) := by decide +kernel
theorem dL_holds_397 : decode cL_holds 397 = .ok (.goto (-299), 3) := by decide +kernel
theorem dL_holds_400 : decode cL_holds 400 = .ok (.aload_n 0, 1) := by decide +kernel
theorem dL_holds_401 : decode cL_holds 401 = .ok (.invokevirtual 68, 3) := by decide +kernel
theorem dL_holds_404 : decode cL_holds 404 = .ok (.istore 7, 2) := by decide +kernel
theorem dL_holds_406 : decode cL_holds 406 = .ok (.aload_n 0, 1) := by decide +kernel
theorem dL_holds_407 : decode cL_holds 407 = .ok (.invokevirtual 71, 3) := by decide +kernel
theorem dL_holds_410 : decode cL_holds 410 = .ok (.dstore 8, 2) := by decide +kernel
theorem dL_holds_412 : decode cL_holds 412 = .ok (.aload_n 0, 1) := by decide +kernel
theorem dL_holds_413 : decode cL_holds 413 = .ok (.iconst 4, 1) := by decide +kernel
theorem dL_holds_414 : decode cL_holds 414 = .ok (.invokevirtual 12, 3) := by decide +kernel
theorem dL_holds_417 : decode cL_holds 417 = .ok (.aload_n 0, 1) := by decide +kernel
theorem dL_holds_418 : decode cL_holds 418 = .ok (.iconst 5, 1) := by decide +kernel
theorem dL_holds_419 : decode cL_holds 419 = .ok (.invokevirtual 12, 3) := by decide +kernel
theorem dL_holds_422 : decode cL_holds 422 = .ok (.iadd, 1) := by decide +kernel
theorem dL_holds_423 : decode cL_holds 423 = .ok (.istore 10, 2) := by decide +kernel
theorem dL_holds_425 : decode cL_holds 425 = .ok (.iload 10, 2) := by decide +kernel
theorem dL_holds_427 : decode cL_holds 427 = .ok (.ifCond .ne 18, 3) := by decide +kernel
theorem dL_holds_430 : decode cL_holds 430 = .ok (.dload 8, 2) := by decide +kernel
theorem dL_holds_432 : decode cL_holds 432 = .ok (.dconst 1, 1) := by decide +kernel
theorem dL_holds_433 : decode cL_holds 433 = .ok (.dcmp .l, 1) := by decide +kernel
theorem dL_holds_434 : decode cL_holds 434 = .ok (.ifCond .ne 7, 3) := by decide +kernel
theorem dL_holds_437 : decode cL_holds 437 = .ok (.iconst 1, 1) := by decide +kernel
theorem dL_holds_438 : decode cL_holds 438 = .ok (.goto 28, 3) := by decide +kernel
theorem dL_holds_441 : decode cL_holds 441 = .ok (.iconst 0, 1) := by decide +kernel
theorem dL_holds_442 : decode cL_holds 442 = .ok (.goto 24, 3) := by decide +kernel
theorem dL_holds_445 : decode cL_holds 445 = .ok (.dload 8, 2) := by decide +kernel
theorem dL_holds_447 : decode cL_holds 447 = .ok (.aload_n 0, 1) := by decide +kernel
theorem dL_holds_448 : decode cL_holds 448 = .ok (.iconst 5, 1) := by decide +kernel
theorem dL_holds_449 : decode cL_holds 449 = .ok (.invokevirtual 12, 3) := by decide +kernel
theorem dL_holds_452 : decode cL_holds 452 = .ok (.i2d, 1) := by decide +kernel
theorem dL_holds_453 : decode cL_holds 453 = .ok (.iload 10, 2) := by decide +kernel
theorem dL_holds_455 : decode cL_holds 455 = .ok (.i2d, 1) := by decide +kernel
theorem dL_holds_456 : decode cL_holds 456 = .ok (.ddiv, 1) := by decide +kernel
theorem dL_holds_457 : decode cL_holds 457 = .ok (.dcmp .l, 1) := by decide +kernel
theorem dL_holds_458 : decode cL_holds 458 = .ok (.ifCond .ne 7, 3) := by decide +kernel
theorem dL_holds_461 : decode cL_holds 461 = .ok (.iconst 1, 1) := by decide +kernel
theorem dL_holds_462 : decode cL_holds 462 = .ok (.goto 4, 3) := by decide +kernel
theorem dL_holds_465 : decode cL_holds 465 = .ok (.iconst 0, 1) := by decide +kernel
theorem dL_holds_466 : decode cL_holds 466 = .ok (.istore 11, 2) := by decide +kernel
theorem dL_holds_468 : decode cL_holds 468 = .ok (.iload 7, 2) := by decide +kernel
theorem dL_holds_470 : decode cL_holds 470 = .ok (.ifCond .ge 16, 3) := by decide +kernel
theorem dL_holds_473 : decode cL_holds 473 = .ok (.iload 6, 2) := by decide +kernel
theorem dL_holds_475 : decode cL_holds 475 = .ok (.ifCond .ne 7, 3) := by decide +kernel
theorem dL_holds_478 : decode cL_holds 478 = .ok (.iconst 1, 1) := by decide +kernel
theorem dL_holds_479 : decode cL_holds 479 = .ok (.goto 22, 3) := by decide +kernel
theorem dL_holds_482 : decode cL_holds 482 = .ok (.iconst 0, 1) := by decide +kernel
theorem dL_holds_483 : decode cL_holds 483 = .ok (.goto 18, 3) := by decide +kernel
theorem dL_holds_486 : decode cL_holds 486 = .ok (.aload_n 0, 1) := by decide +kernel
theorem dL_holds_487 : decode cL_holds 487 = .ok (.iload 7, 2) := by decide +kernel
theorem dL_holds_489 : decode cL_holds 489 = .ok (.iconst 0, 1) := by decide +kernel
theorem dL_holds_490 : decode cL_holds 490 = .ok (.invokevirtual 21, 3) := by decide +kernel
theorem dL_holds_493 : decode cL_holds 493 = .ok (.ifCond .ne 7, 3) := by decide +kernel
theorem dL_holds_496 : decode cL_holds 496 = .ok (.iconst 1, 1) := by decide +kernel
theorem dL_holds_497 : decode cL_holds 497 = .ok (.goto 4, 3) := by decide +kernel
theorem dL_holds_500 : decode cL_holds 500 = .ok (.iconst 0, 1) := by decide +kernel
theorem dL_holds_501 : decode cL_holds 501 = .ok (.istore 12, 2) := by decide +kernel
theorem dL_holds_503 : decode cL_holds 503 = .ok (.iload 11, 2) := by decide +kernel
theorem dL_holds_505 : decode cL_holds 505 = .ok (.ifCond .eq 78, 3) := by decide +kernel
theorem dL_holds_508 : decode cL_holds 508 = .ok (.iload 12, 2) := by decide +kernel
theorem dL_holds_510 : decode cL_holds 510 = .ok (.ifCond .eq 73, 3) := by decide +kernel
theorem dL_holds_513 : decode cL_holds 513 = .ok (.iload_n 3, 1) := by decide +kernel
theorem dL_holds_514 : decode cL_holds 514 = .ok (.aload_n 0, 1) := by decide +kernel
theorem dL_holds_515 : decode cL_holds 515 = .ok (.iconst 2, 1) := by decide +kernel
theorem dL_holds_516 : decode cL_holds 516 = .ok (.invokevirtual 12, 3) := by decide +kernel
theorem dL_holds_519 : decode cL_holds 519 = .ok (.if_icmp .ne 64, 3) := by decide +kernel
theorem dL_holds_522 : decode cL_holds 522 = .ok (.iload 4, 2) := by decide +kernel
theorem dL_holds_524 : decode cL_holds 524 = .ok (.aload_n 0, 1) := by decide +kernel
theorem dL_holds_525 : decode cL_holds 525 = .ok (.iconst 3, 1) := by decide +kernel
theorem dL_holds_526 : decode cL_holds 526 = .ok (.invokevirtual 12, 3) := by decide +kernel
theorem dL_holds_529 : decode cL_holds 529 = .ok (.if_icmp .ne 54, 3) := by decide +kernel
theorem dL_holds_532 : decode cL_holds 532 = .ok (.iload 5, 2) := by decide +kernel
theorem dL_holds_534 : decode cL_holds 534 = .ok (.aload_n 0, 1) := by decide +kernel
theorem dL_holds_535 : decode cL_holds 535 = .ok (.iconst 4, 1) := by decide +kernel
theorem dL_holds_536 : decode cL_holds 536 = .ok (.invokevirtual 12, 3) := by decide +kernel
theorem dL_holds_539 : decode cL_holds 539 = .ok (.if_icmp .ne 44, 3) := by decide +kernel
theorem dL_holds_542 : decode cL_holds 542 = .ok (.iload 6, 2) := by decide +kernel
theorem dL_holds_544 : decode cL_holds 544 = .ok (.aload_n 0, 1) := by decide +kernel
theorem dL_holds_545 : decode cL_holds 545 = .ok (.bipush 6, 2) := by decide +kernel
theorem dL_holds_547 : decode cL_holds 547 = .ok (.invokevirtual 12, 3) := by decide +kernel
theorem dL_holds_550 : decode cL_holds 550 = .ok (.if_icmp .ne 33, 3) := by decide +kernel
theorem dL_holds_553 : decode cL_holds 553 = .ok (.aload_n 0, 1) := by decide +kernel
theorem dL_holds_554 : decode cL_holds 554 = .ok (.iconst 2, 1) := by decide +kernel
theorem dL_holds_555 : decode cL_holds 555 = .ok (.invokevirtual 12, 3) := by decide +kernel
theorem dL_holds_558 : decode cL_holds 558 = .ok (.aload_n 0, 1) := by decide +kernel
theorem dL_holds_559 : decode cL_holds 559 = .ok (.iconst 1, 1) := by decide +kernel
theorem dL_holds_560 : decode cL_holds 560 = .ok (.invokevirtual 12, 3) := by decide +kernel
theorem dL_holds_563 : decode cL_holds 563 = .ok (.iload 10, 2) := by decide +kernel
theorem dL_holds_565 : decode cL_holds 565 = .ok (.iadd, 1) := by decide +kernel
theorem dL_holds_566 : decode cL_holds 566 = .ok (.if_icmp .ne 17, 3) := by decide +kernel
theorem dL_holds_569 : decode cL_holds 569 = .ok (.aload_n 0, 1) := by decide +kernel
theorem dL_holds_570 : decode cL_holds 570 = .ok (.iconst 1, 1) := by decide +kernel
theorem dL_holds_571 : decode cL_holds 571 = .ok (.invokevirtual 12, 3) := by decide +kernel
theorem dL_holds_574 : decode cL_holds 574 = .ok (.bipush 16, 2) := by decide +kernel
theorem dL_holds_576 : decode cL_holds 576 = .ok (.if_icmp .gt 7, 3) := by decide +kernel
theorem dL_holds_579 : decode cL_holds 579 = .ok (.iconst 1, 1) := by decide +kernel
theorem dL_holds_580 : decode cL_holds 580 = .ok (.goto 4, 3) := by decide +kernel
theorem dL_holds_583 : decode cL_holds 583 = .ok (.iconst 0, 1) := by decide +kernel
theorem dL_holds_584 : decode cL_holds 584 = .ok (.ireturn, 1) := by decide +kernel
theorem dL_law_0 : decode cL_law 0 = .ok (.new 13, 3) := by decide +kernel
theorem dL_law_3 : decode cL_law 3 = .ok (.dup, 1) := by decide +kernel
theorem dL_law_4 : decode cL_law 4 = .ok (.invokespecial 75, 3) := by decide +kernel
theorem dL_law_7 : decode cL_law 7 = .ok (.astore_n 1, 1) := by decide +kernel
theorem dL_law_8 : decode cL_law 8 = .ok (.iconst 0, 1) := by decide +kernel
theorem dL_law_9 : decode cL_law 9 = .ok (.istore_n 2, 1) := by decide +kernel
theorem dL_law_10 : decode cL_law 10 = .ok (.iload_n 2, 1) := by decide +kernel
theorem dL_law_11 : decode cL_law 11 = .ok (.bipush 42, 2) := by decide +kernel
theorem dL_law_13 : decode cL_law 13 = .ok (.if_icmp .ge 200, 3) := by decide +kernel
theorem dL_law_16 : decode cL_law 16 = .ok (.aload_n 0, 1) := by decide +kernel
theorem dL_law_17 : decode cL_law 17 = .ok (.iconst 2, 1) := by decide +kernel
theorem dL_law_18 : decode cL_law 18 = .ok (.iload_n 2, 1) := by decide +kernel
theorem dL_law_19 : decode cL_law 19 = .ok (.imul, 1) := by decide +kernel
theorem dL_law_20 : decode cL_law 20 = .ok (.invokestatic 76, 3) := by decide +kernel
theorem dL_law_23 : decode cL_law 23 = .ok (.istore_n 3, 1) := by decide +kernel
theorem dL_law_24 : decode cL_law 24 = .ok (.aload_n 0, 1) := by decide +kernel
theorem dL_law_25 : decode cL_law 25 = .ok (.iconst 2, 1) := by decide +kernel
theorem dL_law_26 : decode cL_law 26 = .ok (.iload_n 2, 1) := by decide +kernel
theorem dL_law_27 : decode cL_law 27 = .ok (.imul, 1) := by decide +kernel
theorem dL_law_28 : decode cL_law 28 = .ok (.iconst 1, 1) := by decide +kernel
theorem dL_law_29 : decode cL_law 29 = .ok (.iadd, 1) := by decide +kernel
theorem dL_law_30 : decode cL_law 30 = .ok (.invokestatic 76, 3) := by decide +kernel
theorem dL_law_33 : decode cL_law 33 = .ok (.istore 4, 2) := by decide +kernel
theorem dL_law_35 : decode cL_law 35 = .ok (.aload_n 1, 1) := by decide +kernel
theorem dL_law_36 : decode cL_law 36 = .ok (.bipush 8, 2) := by decide +kernel
theorem dL_law_38 : decode cL_law 38 = .ok (.invokevirtual 12, 3) := by decide +kernel
theorem dL_law_41 : decode cL_law 41 = .ok (.bipush 6, 2) := by decide +kernel
theorem dL_law_43 : decode cL_law 43 = .ok (.if_icmp .ne 13, 3) := by decide +kernel
theorem dL_law_46 : decode cL_law 46 = .ok (.aload_n 1, 1) := by decide +kernel
theorem dL_law_47 : decode cL_law 47 = .ok (.invokevirtual 80, 3) := by decide +kernel
theorem dL_law_50 : decode cL_law 50 = .ok (.pop, 1) := by decide +kernel
theorem dL_law_51 : decode cL_law 51 = .ok (.aload_n 1, 1) := by decide +kernel
theorem dL_law_52 : decode cL_law 52 = .ok (.invokevirtual 80, 3) := by decide +kernel
theorem dL_law_55 : decode cL_law 55 = .ok (.pop, 1) := by decide +kernel
theorem dL_law_56 : decode cL_law 56 = .ok (.aload_n 1, 1) := by decide +kernel
theorem dL_law_57 : decode cL_law 57 = .ok (.bipush 8, 2) := by decide +kernel
theorem dL_law_59 : decode cL_law 59 = .ok (.invokevirtual 12, 3) := by decide +kernel
theorem dL_law_62 : decode cL_law 62 = .ok (.istore 5, 2) := by decide +kernel
theorem dL_law_64 : decode cL_law 64 = .ok (.aload_n 1, 1) := by decide +kernel
theorem dL_law_65 : decode cL_law 65 = .ok (.invokestatic 83, 3) := by decide +kernel
theorem dL_law_68 : decode cL_law 68 = .ok (.lstore 6, 2) := by decide +kernel
theorem dL_law_70 : decode cL_law 70 = .ok (.aload_n 1, 1) := by decide +kernel
theorem dL_law_71 : decode cL_law 71 = .ok (.iload_n 3, 1) := by decide +kernel
theorem dL_law_72 : decode cL_law 72 = .ok (.iload 4, 2) := by decide +kernel
theorem dL_law_74 : decode cL_law 74 = .ok (.invokestatic 87, 3) := by decide +kernel
theorem dL_law_77 : decode cL_law 77 = .ok (.istore 8, 2) := by decide +kernel
theorem dL_law_79 : decode cL_law 79 = .ok (.aload_n 1, 1) := by decide +kernel
theorem dL_law_80 : decode cL_law 80 = .ok (.invokestatic 83, 3) := by decide +kernel
theorem dL_law_83 : decode cL_law 83 = .ok (.lstore 9, 2) := by decide +kernel
theorem dL_law_85 : decode cL_law 85 = .ok (.iload 8, 2) := by decide +kernel
theorem dL_law_87 : decode cL_law 87 = .ok (.bipush (-9), 2) := by decide +kernel
theorem dL_law_89 : decode cL_law 89 = .ok (.if_icmp .ne 25, 3) := by decide +kernel
theorem dL_law_92 : decode cL_law 92 = .ok (.lload 9, 2) := by decide +kernel
theorem dL_law_94 : decode cL_law 94 = .ok (.lload 6, 2) := by decide +kernel
theorem dL_law_96 : decode cL_law 96 = .ok (.lcmp, 1) := by decide +kernel
theorem dL_law_97 : decode cL_law 97 = .ok (.ifCond .ne 30, 3) := by decide +kernel
theorem dL_law_100 : decode cL_law 100 = .ok (.aload_n 1, 1) := by decide +kernel
theorem dL_law_101 : decode cL_law 101 = .ok (.bipush 8, 2) := by decide +kernel
theorem dL_law_103 : decode cL_law 103 = .ok (.invokevirtual 12, 3) := by decide +kernel
theorem dL_law_106 : decode cL_law 106 = .ok (.iload 5, 2) := by decide +kernel
theorem dL_law_108 : decode cL_law 108 = .ok (.if_icmp .eq 21, 3) := by decide +kernel
theorem dL_law_111 : decode cL_law 111 = .ok (.goto 16, 3) := by decide +kernel
theorem dL_law_114 : decode cL_law 114 = .ok (.aload_n 1, 1) := by decide +kernel
theorem dL_law_115 : decode cL_law 115 = .ok (.bipush 8, 2) := by decide +kernel
theorem dL_law_117 : decode cL_law 117 = .ok (.invokevirtual 12, 3) := by decide +kernel
theorem dL_law_120 : decode cL_law 120 = .ok (.iload 5, 2) := by decide +kernel
theorem dL_law_122 : decode cL_law 122 = .ok (.iconst 1, 1) := by decide +kernel
theorem dL_law_123 : decode cL_law 123 = .ok (.iadd, 1) := by decide +kernel
theorem dL_law_124 : decode cL_law 124 = .ok (.if_icmp .eq 5, 3) := by decide +kernel
theorem dL_law_127 : decode cL_law 127 = .ok (.iconst 0, 1) := by decide +kernel
theorem dL_law_128 : decode cL_law 128 = .ok (.ireturn, 1) := by decide +kernel
theorem dL_law_129 : decode cL_law 129 = .ok (.iload 8, 2) := by decide +kernel
theorem dL_law_131 : decode cL_law 131 = .ok (.bipush (-9), 2) := by decide +kernel
theorem dL_law_133 : decode cL_law 133 = .ok (.if_icmp .le 55, 3) := by decide +kernel
theorem dL_law_136 : decode cL_law 136 = .ok (.iload_n 3, 1) := by decide +kernel
theorem dL_law_137 : decode cL_law 137 = .ok (.bipush 9, 2) := by decide +kernel
theorem dL_law_139 : decode cL_law 139 = .ok (.ishr, 1) := by decide +kernel
theorem dL_law_140 : decode cL_law 140 = .ok (.iconst 1, 1) := by decide +kernel
theorem dL_law_141 : decode cL_law 141 = .ok (.iand, 1) := by decide +kernel
theorem dL_law_142 : decode cL_law 142 = .ok (.ifCond .ne 46, 3) := by decide +kernel
theorem dL_law_145 : decode cL_law 145 = .ok (.aload_n 1, 1) := by decide +kernel
theorem dL_law_146 : decode cL_law 146 = .ok (.invokevirtual 80, 3) := by decide +kernel
theorem dL_law_149 : decode cL_law 149 = .ok (.iload 5, 2) := by decide +kernel
theorem dL_law_151 : decode cL_law 151 = .ok (.if_icmp .ne 35, 3) := by decide +kernel
theorem dL_law_154 : decode cL_law 154 = .ok (.aload_n 1, 1) := by decide +kernel
theorem dL_law_155 : decode cL_law 155 = .ok (.invokestatic 83, 3) := by decide +kernel
theorem dL_law_158 : decode cL_law 158 = .ok (.lload 6, 2) := by decide +kernel
theorem dL_law_160 : decode cL_law 160 = .ok (.lcmp, 1) := by decide +kernel
theorem dL_law_161 : decode cL_law 161 = .ok (.ifCond .ne 25, 3) := by decide +kernel
theorem dL_law_164 : decode cL_law 164 = .ok (.aload_n 1, 1) := by decide +kernel
theorem dL_law_165 : decode cL_law 165 = .ok (.iload_n 3, 1) := by decide +kernel
theorem dL_law_166 : decode cL_law 166 = .ok (.iload 4, 2) := by decide +kernel
theorem dL_law_168 : decode cL_law 168 = .ok (.invokestatic 87, 3) := by decide +kernel
theorem dL_law_171 : decode cL_law 171 = .ok (.iload 8, 2) := by decide +kernel
theorem dL_law_173 : decode cL_law 173 = .ok (.if_icmp .ne 13, 3) := by decide +kernel
theorem dL_law_176 : decode cL_law 176 = .ok (.aload_n 1, 1) := by decide +kernel
theorem dL_law_177 : decode cL_law 177 = .ok (.invokestatic 83, 3) := by decide +kernel
theorem dL_law_180 : decode cL_law 180 = .ok (.lload 9, 2) := by decide +kernel
theorem dL_law_182 : decode cL_law 182 = .ok (.lcmp, 1) := by decide +kernel
theorem dL_law_183 : decode cL_law 183 = .ok (.ifCond .eq 5, 3) := by decide +kernel
theorem dL_law_186 : decode cL_law 186 = .ok (.iconst 0, 1) := by decide +kernel
theorem dL_law_187 : decode cL_law 187 = .ok (.ireturn, 1) := by decide +kernel
theorem dL_law_188 : decode cL_law 188 = .ok (.aload_n 1, 1) := by decide +kernel
theorem dL_law_189 : decode cL_law 189 = .ok (.invokestatic 91, 3) := by decide +kernel
theorem dL_law_192 : decode cL_law 192 = .ok (.ifCond .eq 13, 3) := by decide +kernel
theorem dL_law_195 : decode cL_law 195 = .ok (.aload_n 1, 1) := by decide +kernel
theorem dL_law_196 : decode cL_law 196 = .ok (.invokestatic 83, 3) := by decide +kernel
theorem dL_law_199 : decode cL_law 199 = .ok (.lload 9, 2) := by decide +kernel
theorem dL_law_201 : decode cL_law 201 = .ok (.lcmp, 1) := by decide +kernel
theorem dL_law_202 : decode cL_law 202 = .ok (.ifCond .eq 5, 3) := by decide +kernel
theorem dL_law_205 : decode cL_law 205 = .ok (.iconst 0, 1) := by decide +kernel
theorem dL_law_206 : decode cL_law 206 = .ok (.ireturn, 1) := by decide +kernel
theorem dL_law_207 : decode cL_law 207 = .ok (.iinc 2 1, 3) := by decide +kernel
theorem dL_law_210 : decode cL_law 210 = .ok (.goto (-200), 3) := by decide +kernel
theorem dL_law_213 : decode cL_law 213 = .ok (.iconst 1, 1) := by decide +kernel
theorem dL_law_214 : decode cL_law 214 = .ok (.ireturn, 1) := by decide +kernel
