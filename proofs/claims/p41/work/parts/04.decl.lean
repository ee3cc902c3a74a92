theorem dL_cell_0 : decode cL_cell 0 = .ok (.iload_n 1, 1) := by decide +kernel
theorem dL_cell_1 : decode cL_cell 1 = .ok (.aload_n 0, 1) := by decide +kernel
theorem dL_cell_2 : decode cL_cell 2 = .ok (.arraylength, 1) := by decide +kernel
theorem dL_cell_3 : decode cL_cell 3 = .ok (.if_icmp .ge 9, 3) := by decide +kernel
theorem dL_cell_6 : decode cL_cell 6 = .ok (.aload_n 0, 1) := by decide +kernel
theorem dL_cell_7 : decode cL_cell 7 = .ok (.iload_n 1, 1) := by decide +kernel
theorem dL_cell_8 : decode cL_cell 8 = .ok (.iaload, 1) := by decide +kernel
theorem dL_cell_9 : decode cL_cell 9 = .ok (.goto 11, 3) := by decide +kernel
theorem dL_cell_12 : decode cL_cell 12 = .ok (.sipush 7919, 3) := by decide +kernel
theorem dL_cell_15 : decode cL_cell 15 = .ok (.iload_n 1, 1) := by decide +kernel
theorem dL_cell_16 : decode cL_cell 16 = .ok (.imul, 1) := by decide +kernel
theorem dL_cell_17 : decode cL_cell 17 = .ok (.bipush 12, 2) := by decide +kernel
theorem dL_cell_19 : decode cL_cell 19 = .ok (.iadd, 1) := by decide +kernel
theorem dL_cell_20 : decode cL_cell 20 = .ok (.ireturn, 1) := by decide +kernel
theorem dL_chosen_0 : decode cL_chosen 0 = .ok (.iload_n 0, 1) := by decide +kernel
theorem dL_chosen_1 : decode cL_chosen 1 = .ok (.ldc 7, 2) := by decide +kernel
theorem dL_chosen_3 : decode cL_chosen 3 = .ok (.iand, 1) := by decide +kernel
theorem dL_chosen_4 : decode cL_chosen 4 = .ok (.iload_n 1, 1) := by decide +kernel
theorem dL_chosen_5 : decode cL_chosen 5 = .ok (.irem, 1) := by decide +kernel
theorem dL_chosen_6 : decode cL_chosen 6 = .ok (.ireturn, 1) := by decide +kernel
theorem dL_done_0 : decode cL_done 0 = .ok (.iconst 0, 1) := by decide +kernel
theorem dL_done_1 : decode cL_done 1 = .ok (.istore_n 2, 1) := by decide +kernel
theorem dL_done_2 : decode cL_done 2 = .ok (.iload_n 2, 1) := by decide +kernel
theorem dL_done_3 : decode cL_done 3 = .ok (.aload_n 1, 1) := by decide +kernel
theorem dL_done_4 : decode cL_done 4 = .ok (.invokevirtual 8, 3) := by decide +kernel
theorem dL_done_7 : decode cL_done 7 = .ok (.if_icmp .ge 19, 3) := by decide +kernel
theorem dL_done_10 : decode cL_done 10 = .ok (.aload_n 0, 1) := by decide +kernel
theorem dL_done_11 : decode cL_done 11 = .ok (.aload_n 1, 1) := by decide +kernel
theorem dL_done_12 : decode cL_done 12 = .ok (.iload_n 2, 1) := by decide +kernel
theorem dL_done_13 : decode cL_done 13 = .ok (.invokevirtual 14, 3) := by decide +kernel
theorem dL_done_16 : decode cL_done 16 = .ok (.invokevirtual 18, 3) := by decide +kernel
theorem dL_done_19 : decode cL_done 19 = .ok (.pop, 1) := by decide +kernel
theorem dL_done_20 : decode cL_done 20 = .ok (.iinc 2 1, 3) := by decide +kernel
theorem dL_done_23 : decode cL_done 23 = .ok (.goto (-21), 3) := by decide +kernel
theorem dL_done_26 : decode cL_done 26 = .ok (.aload_n 0, 1) := by decide +kernel
theorem dL_done_27 : decode cL_done 27 = .ok (.invokevirtual 24, 3) := by decide +kernel
theorem dL_done_30 : decode cL_done 30 = .ok (.ireturn, 1) := by decide +kernel
theorem dL_mark_0 : decode cL_mark 0 = .ok (.ldc2_w 27, 3) := by decide +kernel
theorem dL_mark_3 : decode cL_mark 3 = .ok (.lstore_n 1, 1) := by decide +kernel
theorem dL_mark_4 : decode cL_mark 4 = .ok (.iconst 0, 1) := by decide +kernel
theorem dL_mark_5 : decode cL_mark 5 = .ok (.istore_n 3, 1) := by decide +kernel
theorem dL_mark_6 : decode cL_mark 6 = .ok (.iload_n 3, 1) := by decide +kernel
theorem dL_mark_7 : decode cL_mark 7 = .ok (.bipush 12, 2) := by decide +kernel
theorem dL_mark_9 : decode cL_mark 9 = .ok (.if_icmp .ge 22, 3) := by decide +kernel
theorem dL_mark_12 : decode cL_mark 12 = .ok (.ldc2_w 29, 3) := by decide +kernel
theorem dL_mark_15 : decode cL_mark 15 = .ok (.lload_n 1, 1) := by decide +kernel
theorem dL_mark_16 : decode cL_mark 16 = .ok (.lmul, 1) := by decide +kernel
theorem dL_mark_17 : decode cL_mark 17 = .ok (.aload_n 0, 1) := by decide +kernel
theorem dL_mark_18 : decode cL_mark 18 = .ok (.iload_n 3, 1) := by decide +kernel
theorem dL_mark_19 : decode cL_mark 19 = .ok (.invokevirtual 31, 3) := by decide +kernel
theorem dL_mark_22 : decode cL_mark 22 = .ok (.i2l, 1) := by decide +kernel
theorem dL_mark_23 : decode cL_mark 23 = .ok (.ladd, 1) := by decide +kernel
theorem dL_mark_24 : decode cL_mark 24 = .ok (.lstore_n 1, 1) := by decide +kernel
theorem dL_mark_25 : decode cL_mark 25 = .ok (.iinc 3 1, 3) := by decide +kernel
theorem dL_mark_28 : decode cL_mark 28 = .ok (.goto (-22), 3) := by decide +kernel
theorem dL_mark_31 : decode cL_mark 31 = .ok (.iconst 0, 1) := by decide +kernel
theorem dL_mark_32 : decode cL_mark 32 = .ok (.istore_n 3, 1) := by decide +kernel
theorem dL_mark_33 : decode cL_mark 33 = .ok (.iload_n 3, 1) := by decide +kernel
theorem dL_mark_34 : decode cL_mark 34 = .ok (.aload_n 0, 1) := by decide +kernel
theorem dL_mark_35 : decode cL_mark 35 = .ok (.iconst 0, 1) := by decide +kernel
theorem dL_mark_36 : decode cL_mark 36 = .ok (.invokevirtual 31, 3) := by decide +kernel
theorem dL_mark_39 : decode cL_mark 39 = .ok (.if_icmp .ge 40, 3) := by decide +kernel
theorem dL_mark_42 : decode cL_mark 42 = .ok (.iconst 0, 1) := by decide +kernel
theorem dL_mark_43 : decode cL_mark 43 = .ok (.istore 4, 2) := by decide +kernel
theorem dL_mark_45 : decode cL_mark 45 = .ok (.iload 4, 2) := by decide +kernel
theorem dL_mark_47 : decode cL_mark 47 = .ok (.bipush 6, 2) := by decide +kernel
theorem dL_mark_49 : decode cL_mark 49 = .ok (.if_icmp .ge 24, 3) := by decide +kernel
theorem dL_mark_52 : decode cL_mark 52 = .ok (.ldc2_w 29, 3) := by decide +kernel
theorem dL_mark_55 : decode cL_mark 55 = .ok (.lload_n 1, 1) := by decide +kernel
theorem dL_mark_56 : decode cL_mark 56 = .ok (.lmul, 1) := by decide +kernel
theorem dL_mark_57 : decode cL_mark 57 = .ok (.aload_n 0, 1) := by decide +kernel
theorem dL_mark_58 : decode cL_mark 58 = .ok (.iload_n 3, 1) := by decide +kernel
theorem dL_mark_59 : decode cL_mark 59 = .ok (.iload 4, 2) := by decide +kernel
theorem dL_mark_61 : decode cL_mark 61 = .ok (.invokevirtual 35, 3) := by decide +kernel
theorem dL_mark_64 : decode cL_mark 64 = .ok (.i2l, 1) := by decide +kernel
theorem dL_mark_65 : decode cL_mark 65 = .ok (.ladd, 1) := by decide +kernel
theorem dL_mark_66 : decode cL_mark 66 = .ok (.lstore_n 1, 1) := by decide +kernel
theorem dL_mark_67 : decode cL_mark 67 = .ok (.iinc 4 1, 3) := by decide +kernel
theorem dL_mark_70 : decode cL_mark 70 = .ok (.goto (-25), 3) := by decide +kernel
theorem dL_mark_73 : decode cL_mark 73 = .ok (.iinc 3 1, 3) := by decide +kernel
theorem dL_mark_76 : decode cL_mark 76 = .ok (.goto (-43), 3) := by decide +kernel
theorem dL_mark_79 : decode cL_mark 79 = .ok (.iconst 0, 1) := by decide +kernel
theorem dL_mark_80 : decode cL_mark 80 = .ok (.istore_n 3, 1) := by decide +kernel
theorem dL_mark_81 : decode cL_mark 81 = .ok (.iload_n 3, 1) := by decide +kernel
theorem dL_mark_82 : decode cL_mark 82 = .ok (.aload_n 0, 1) := by decide +kernel
theorem dL_mark_83 : decode cL_mark 83 = .ok (.bipush 6, 2) := by decide +kernel
theorem dL_mark_85 : decode cL_mark 85 = .ok (.invokevirtual 31, 3) := by decide +kernel
theorem dL_mark_88 : decode cL_mark 88 = .ok (.if_icmp .ge 39, 3) := by decide +kernel
theorem dL_mark_91 : decode cL_mark 91 = .ok (.iconst 0, 1) := by decide +kernel
theorem dL_mark_92 : decode cL_mark 92 = .ok (.istore 4, 2) := by decide +kernel
theorem dL_mark_94 : decode cL_mark 94 = .ok (.iload 4, 2) := by decide +kernel
theorem dL_mark_96 : decode cL_mark 96 = .ok (.iconst 3, 1) := by decide +kernel
theorem dL_mark_97 : decode cL_mark 97 = .ok (.if_icmp .ge 24, 3) := by decide +kernel
theorem dL_mark_100 : decode cL_mark 100 = .ok (.ldc2_w 29, 3) := by decide +kernel
theorem dL_mark_103 : decode cL_mark 103 = .ok (.lload_n 1, 1) := by decide +kernel
theorem dL_mark_104 : decode cL_mark 104 = .ok (.lmul, 1) := by decide +kernel
theorem dL_mark_105 : decode cL_mark 105 = .ok (.aload_n 0, 1) := by decide +kernel
theorem dL_mark_106 : decode cL_mark 106 = .ok (.iload_n 3, 1) := by decide +kernel
theorem dL_mark_107 : decode cL_mark 107 = .ok (.iload 4, 2) := by decide +kernel
theorem dL_mark_109 : decode cL_mark 109 = .ok (.invokevirtual 39, 3) := by decide +kernel
theorem dL_mark_112 : decode cL_mark 112 = .ok (.i2l, 1) := by decide +kernel
theorem dL_mark_113 : decode cL_mark 113 = .ok (.ladd, 1) := by decide +kernel
theorem dL_mark_114 : decode cL_mark 114 = .ok (.lstore_n 1, 1) := by decide +kernel
theorem dL_mark_115 : decode cL_mark 115 = .ok (.iinc 4 1, 3) := by decide +kernel
theorem dL_mark_118 : decode cL_mark 118 = .ok (.goto (-24), 3) := by decide +kernel
theorem dL_mark_121 : decode cL_mark 121 = .ok (.iinc 3 1, 3) := by decide +kernel
theorem dL_mark_124 : decode cL_mark 124 = .ok (.goto (-43), 3) := by decide +kernel
theorem dL_mark_127 : decode cL_mark 127 = .ok (.iconst 0, 1) := by decide +kernel
theorem dL_mark_128 : decode cL_mark 128 = .ok (.istore_n 3, 1) := by decide +kernel
theorem dL_mark_129 : decode cL_mark 129 = .ok (.iload_n 3, 1) := by decide +kernel
theorem dL_mark_130 : decode cL_mark 130 = .ok (.iconst 4, 1) := by decide +kernel
theorem dL_mark_131 : decode cL_mark 131 = .ok (.if_icmp .ge 35, 3) := by decide +kernel
theorem dL_mark_134 : decode cL_mark 134 = .ok (.ldc2_w 29, 3) := by decide +kernel
theorem dL_mark_137 : decode cL_mark 137 = .ok (.lload_n 1, 1) := by decide +kernel
theorem dL_mark_138 : decode cL_mark 138 = .ok (.lmul, 1) := by decide +kernel
theorem dL_mark_139 : decode cL_mark 139 = .ok (.ldc2_w 42, 3) := by decide +kernel
theorem dL_mark_142 : decode cL_mark 142 = .ok (.aload_n 0, 1) := by decide +kernel
theorem dL_mark_143 : decode cL_mark 143 = .ok (.iload_n 3, 1) := by decide +kernel
theorem dL_mark_144 : decode cL_mark 144 = .ok (.iconst 0, 1) := by decide +kernel
theorem dL_mark_145 : decode cL_mark 145 = .ok (.invokevirtual 44, 3) := by decide +kernel
theorem dL_mark_148 : decode cL_mark 148 = .ok (.i2l, 1) := by decide +kernel
theorem dL_mark_149 : decode cL_mark 149 = .ok (.lmul, 1) := by decide +kernel
theorem dL_mark_150 : decode cL_mark 150 = .ok (.ladd, 1) := by decide +kernel
theorem dL_mark_151 : decode cL_mark 151 = .ok (.aload_n 0, 1) := by decide +kernel
theorem dL_mark_152 : decode cL_mark 152 = .ok (.iload_n 3, 1) := by decide +kernel
theorem dL_mark_153 : decode cL_mark 153 = .ok (.iconst 3, 1) := by decide +kernel
theorem dL_mark_154 : decode cL_mark 154 = .ok (.invokevirtual 44, 3) := by decide +kernel
theorem dL_mark_157 : decode cL_mark 157 = .ok (.i2l, 1) := by decide +kernel
theorem dL_mark_158 : decode cL_mark 158 = .ok (.ladd, 1) := by decide +kernel
theorem dL_mark_159 : decode cL_mark 159 = .ok (.lstore_n 1, 1) := by decide +kernel
theorem dL_mark_160 : decode cL_mark 160 = .ok (.iinc 3 1, 3) := by decide +kernel
theorem dL_mark_163 : decode cL_mark 163 = .ok (.goto (-34), 3) := by decide +kernel
theorem dL_mark_166 : decode cL_mark 166 = .ok (.ldc2_w 29, 3) := by decide +kernel
theorem dL_mark_169 : decode cL_mark 169 = .ok (.lload_n 1, 1) := by decide +kernel
theorem dL_mark_170 : decode cL_mark 170 = .ok (.lmul, 1) := by decide +kernel
theorem dL_mark_171 : decode cL_mark 171 = .ok (.aload_n 0, 1) := by decide +kernel
theorem dL_mark_172 : decode cL_mark 172 = .ok (.invokevirtual 47, 3) := by decide +kernel
theorem dL_mark_175 : decode cL_mark 175 = .ok (.invokestatic 51, 3) := by decide +kernel
theorem dL_mark_178 : decode cL_mark 178 = .ok (.i2l, 1) := by decide +kernel
theorem dL_mark_179 : decode cL_mark 179 = .ok (.ladd, 1) := by decide +kernel
theorem dL_mark_180 : decode cL_mark 180 = .ok (.lreturn, 1) := by decide +kernel
theorem dL_acts_0 : decode cL_acts 0 = .ok (.iload_n 1, 1) := by decide +kernel
theorem dL_acts_1 : decode cL_acts 1 = .ok (.bipush 8, 2) := by decide +kernel
theorem dL_acts_3 : decode cL_acts 3 = .ok (.ishr, 1) := by decide +kernel
theorem dL_acts_4 : decode cL_acts 4 = .ok (.ldc 57, 2) := by decide +kernel
theorem dL_acts_6 : decode cL_acts 6 = .ok (.invokestatic 58, 3) := by decide +kernel
theorem dL_acts_9 : decode cL_acts 9 = .ok (.istore_n 2, 1) := by decide +kernel
theorem dL_acts_10 : decode cL_acts 10 = .ok (.iconst 1, 1) := by decide +kernel
theorem dL_acts_11 : decode cL_acts 11 = .ok (.aload_n 0, 1) := by decide +kernel
theorem dL_acts_12 : decode cL_acts 12 = .ok (.iconst 0, 1) := by decide +kernel
theorem dL_acts_13 : decode cL_acts 13 = .ok (.invokevirtual 31, 3) := by decide +kernel
theorem dL_acts_16 : decode cL_acts 16 = .ok (.invokestatic 63, 3) := by decide +kernel
theorem dL_acts_19 : decode cL_acts 19 = .ok (.istore_n 3, 1) := by decide +kernel
theorem dL_acts_20 : decode cL_acts 20 = .ok (.iload_n 1, 1) := by decide +kernel
theorem dL_acts_21 : decode cL_acts 21 = .ok (.bipush 22, 2) := by decide +kernel
theorem dL_acts_23 : decode cL_acts 23 = .ok (.invokestatic 58, 3) := by decide +kernel
theorem dL_acts_26 : decode cL_acts 26 = .ok (.tableswitch 189 0 16 #[82, 82, 82, 82, 82, 115, 115, 123, 131, 131, 142, 153, 168, 168, 176, 176, 176], 82) := by decide +kernel
theorem dL_acts_108 : decode cL_acts 108 = .ok (.aload_n 0, 1) := by decide +kernel
theorem dL_acts_109 : decode cL_acts 109 = .ok (.iload_n 2, 1) := by decide +kernel
theorem dL_acts_110 : decode cL_acts 110 = .ok (.iconst 4, 1) := by decide +kernel
theorem dL_acts_111 : decode cL_acts 111 = .ok (.irem, 1) := by decide +kernel
theorem dL_acts_112 : decode cL_acts 112 = .ok (.iconst 1, 1) := by decide +kernel
theorem dL_acts_113 : decode cL_acts 113 = .ok (.iload_n 2, 1) := by decide +kernel
theorem dL_acts_114 : decode cL_acts 114 = .ok (.iconst 4, 1) := by decide +kernel
theorem dL_acts_115 : decode cL_acts 115 = .ok (.idiv, 1) := by decide +kernel
theorem dL_acts_116 : decode cL_acts 116 = .ok (.bipush 30, 2) := by decide +kernel
theorem dL_acts_118 : decode cL_acts 118 = .ok (.irem, 1) := by decide +kernel
theorem dL_acts_119 : decode cL_acts 119 = .ok (.iadd, 1) := by decide +kernel
theorem dL_acts_120 : decode cL_acts 120 = .ok (.iload_n 2, 1) := by decide +kernel
theorem dL_acts_121 : decode cL_acts 121 = .ok (.bipush 120, 2) := by decide +kernel
theorem dL_acts_123 : decode cL_acts 123 = .ok (.idiv, 1) := by decide +kernel
theorem dL_acts_124 : decode cL_acts 124 = .ok (.bipush 64, 2) := by decide +kernel
theorem dL_acts_126 : decode cL_acts 126 = .ok (.irem, 1) := by decide +kernel
theorem dL_acts_127 : decode cL_acts 127 = .ok (.iconst 1, 1) := by decide +kernel
theorem dL_acts_128 : decode cL_acts 128 = .ok (.iload_n 2, 1) := by decide +kernel
theorem dL_acts_129 : decode cL_acts 129 = .ok (.sipush 7680, 3) := by decide +kernel
theorem dL_acts_132 : decode cL_acts 132 = .ok (.idiv, 1) := by decide +kernel
theorem dL_acts_133 : decode cL_acts 133 = .ok (.bipush 9, 2) := by decide +kernel
theorem dL_acts_135 : decode cL_acts 135 = .ok (.irem, 1) := by decide +kernel
theorem dL_acts_136 : decode cL_acts 136 = .ok (.iadd, 1) := by decide +kernel
theorem dL_acts_137 : decode cL_acts 137 = .ok (.invokevirtual 68, 3) := by decide +kernel
theorem dL_acts_140 : decode cL_acts 140 = .ok (.ireturn, 1) := by decide +kernel
theorem dL_acts_141 : decode cL_acts 141 = .ok (.aload_n 0, 1) := by decide +kernel
theorem dL_acts_142 : decode cL_acts 142 = .ok (.iload_n 2, 1) := by decide +kernel
theorem dL_acts_143 : decode cL_acts 143 = .ok (.iload_n 3, 1) := by decide +kernel
theorem dL_acts_144 : decode cL_acts 144 = .ok (.irem, 1) := by decide +kernel
theorem dL_acts_145 : decode cL_acts 145 = .ok (.invokevirtual 72, 3) := by decide +kernel
theorem dL_acts_148 : decode cL_acts 148 = .ok (.ireturn, 1) := by decide +kernel
theorem dL_acts_149 : decode cL_acts 149 = .ok (.aload_n 0, 1) := by decide +kernel
theorem dL_acts_150 : decode cL_acts 150 = .ok (.iload_n 2, 1) := by decide +kernel
theorem dL_acts_151 : decode cL_acts 151 = .ok (.iload_n 3, 1) := by decide +kernel
theorem dL_acts_152 : decode cL_acts 152 = .ok (.irem, 1) := by decide +kernel
theorem dL_acts_153 : decode cL_acts 153 = .ok (.invokevirtual 75, 3) := by decide +kernel
theorem dL_acts_156 : decode cL_acts 156 = .ok (.ireturn, 1) := by decide +kernel
theorem dL_acts_157 : decode cL_acts 157 = .ok (.aload_n 0, 1) := by decide +kernel
theorem dL_acts_158 : decode cL_acts 158 = .ok (.iconst 1, 1) := by decide +kernel
theorem dL_acts_159 : decode cL_acts 159 = .ok (.iload_n 2, 1) := by decide +kernel
theorem dL_acts_160 : decode cL_acts 160 = .ok (.bipush 20, 2) := by decide +kernel
theorem dL_acts_162 : decode cL_acts 162 = .ok (.irem, 1) := by decide +kernel
theorem dL_acts_163 : decode cL_acts 163 = .ok (.iadd, 1) := by decide +kernel
theorem dL_acts_164 : decode cL_acts 164 = .ok (.invokevirtual 78, 3) := by decide +kernel
theorem dL_acts_167 : decode cL_acts 167 = .ok (.ireturn, 1) := by decide +kernel
theorem dL_acts_168 : decode cL_acts 168 = .ok (.aload_n 0, 1) := by decide +kernel
theorem dL_acts_169 : decode cL_acts 169 = .ok (.iconst 1, 1) := by decide +kernel
theorem dL_acts_170 : decode cL_acts 170 = .ok (.iload_n 2, 1) := by decide +kernel
theorem dL_acts_171 : decode cL_acts 171 = .ok (.bipush 10, 2) := by decide +kernel
theorem dL_acts_173 : decode cL_acts 173 = .ok (.irem, 1) := by decide +kernel
theorem dL_acts_174 : decode cL_acts 174 = .ok (.iadd, 1) := by decide +kernel
theorem dL_acts_175 : decode cL_acts 175 = .ok (.invokevirtual 81, 3) := by decide +kernel
theorem dL_acts_178 : decode cL_acts 178 = .ok (.ireturn, 1) := by decide +kernel
theorem dL_acts_179 : decode cL_acts 179 = .ok (.aload_n 0, 1) := by decide +kernel
theorem dL_acts_180 : decode cL_acts 180 = .ok (.iload_n 2, 1) := by decide +kernel
theorem dL_acts_181 : decode cL_acts 181 = .ok (.iconst 4, 1) := by decide +kernel
theorem dL_acts_182 : decode cL_acts 182 = .ok (.irem, 1) := by decide +kernel
theorem dL_acts_183 : decode cL_acts 183 = .ok (.iconst 1, 1) := by decide +kernel
theorem dL_acts_184 : decode cL_acts 184 = .ok (.iload_n 2, 1) := by decide +kernel
theorem dL_acts_185 : decode cL_acts 185 = .ok (.iconst 4, 1) := by decide +kernel
theorem dL_acts_186 : decode cL_acts 186 = .ok (.idiv, 1) := by decide +kernel
theorem dL_acts_187 : decode cL_acts 187 = .ok (.iconst 5, 1) := by decide +kernel
theorem dL_acts_188 : decode cL_acts 188 = .ok (.irem, 1) := by decide +kernel
theorem dL_acts_189 : decode cL_acts 189 = .ok (.iadd, 1) := by decide +kernel
theorem dL_acts_190 : decode cL_acts 190 = .ok (.invokevirtual 84, 3) := by decide +kernel
theorem dL_acts_193 : decode cL_acts 193 = .ok (.ireturn, 1) := by decide +kernel
theorem dL_acts_194 : decode cL_acts 194 = .ok (.aload_n 0, 1) := by decide +kernel
theorem dL_acts_195 : decode cL_acts 195 = .ok (.iload_n 2, 1) := by decide +kernel
theorem dL_acts_196 : decode cL_acts 196 = .ok (.iconst 4, 1) := by decide +kernel
theorem dL_acts_197 : decode cL_acts 197 = .ok (.irem, 1) := by decide +kernel
theorem dL_acts_198 : decode cL_acts 198 = .ok (.invokevirtual 87, 3) := by decide +kernel
theorem dL_acts_201 : decode cL_acts 201 = .ok (.ireturn, 1) := by decide +kernel
theorem dL_acts_202 : decode cL_acts 202 = .ok (.aload_n 0, 1) := by decide +kernel
theorem dL_acts_203 : decode cL_acts 203 = .ok (.getstatic 90, 3) := by decide +kernel
theorem dL_acts_206 : decode cL_acts 206 = .ok (.iload_n 2, 1) := by decide +kernel
theorem dL_acts_207 : decode cL_acts 207 = .ok (.bipush 8, 2) := by decide +kernel
theorem dL_acts_209 : decode cL_acts 209 = .ok (.irem, 1) := by decide +kernel
theorem dL_acts_210 : decode cL_acts 210 = .ok (.aaload, 1) := by decide +kernel
theorem dL_acts_211 : decode cL_acts 211 = .ok (.invokestatic 94, 3) := by decide +kernel
theorem dL_acts_214 : decode cL_acts 214 = .ok (.ireturn, 1) := by decide +kernel
theorem dL_acts_215 : decode cL_acts 215 = .ok (.aload_n 0, 1) := by decide +kernel
theorem dL_acts_216 : decode cL_acts 216 = .ok (.iconst 1, 1) := by decide +kernel
theorem dL_acts_217 : decode cL_acts 217 = .ok (.iload_n 2, 1) := by decide +kernel
theorem dL_acts_218 : decode cL_acts 218 = .ok (.iconst 4, 1) := by decide +kernel
theorem dL_acts_219 : decode cL_acts 219 = .ok (.irem, 1) := by decide +kernel
theorem dL_acts_220 : decode cL_acts 220 = .ok (.iadd, 1) := by decide +kernel
theorem dL_acts_221 : decode cL_acts 221 = .ok (.invokevirtual 98, 3) := by decide +kernel
theorem dL_acts_224 : decode cL_acts 224 = .ok (.ireturn, 1) := by decide +kernel
theorem dL_pumps_0 : decode cL_pumps 0 = .ok (.iconst 1, 1) := by decide +kernel
theorem dL_pumps_1 : decode cL_pumps 1 = .ok (.iload_n 1, 1) := by decide +kernel
theorem dL_pumps_2 : decode cL_pumps 2 = .ok (.bipush 9, 2) := by decide +kernel
theorem dL_pumps_4 : decode cL_pumps 4 = .ok (.invokestatic 58, 3) := by decide +kernel
theorem dL_pumps_7 : decode cL_pumps 7 = .ok (.iadd, 1) := by decide +kernel
theorem dL_pumps_8 : decode cL_pumps 8 = .ok (.istore_n 2, 1) := by decide +kernel
theorem dL_pumps_9 : decode cL_pumps 9 = .ok (.aload_n 0, 1) := by decide +kernel
theorem dL_pumps_10 : decode cL_pumps 10 = .ok (.invokestatic 101, 3) := by decide +kernel
theorem dL_pumps_13 : decode cL_pumps 13 = .ok (.lstore_n 3, 1) := by decide +kernel
theorem dL_pumps_14 : decode cL_pumps 14 = .ok (.aload_n 0, 1) := by decide +kernel
theorem dL_pumps_15 : decode cL_pumps 15 = .ok (.iload_n 2, 1) := by decide +kernel
theorem dL_pumps_16 : decode cL_pumps 16 = .ok (.invokevirtual 105, 3) := by decide +kernel
theorem dL_pumps_19 : decode cL_pumps 19 = .ok (.istore 5, 2) := by decide +kernel
theorem dL_pumps_21 : decode cL_pumps 21 = .ok (.aload_n 0, 1) := by decide +kernel
theorem dL_pumps_22 : decode cL_pumps 22 = .ok (.iload_n 2, 1) := by decide +kernel
theorem dL_pumps_23 : decode cL_pumps 23 = .ok (.invokevirtual 108, 3) := by decide +kernel
theorem dL_pumps_26 : decode cL_pumps 26 = .ok (.istore 6, 2) := by decide +kernel
theorem dL_pumps_28 : decode cL_pumps 28 = .ok (.aload_n 0, 1) := by decide +kernel
theorem dL_pumps_29 : decode cL_pumps 29 = .ok (.bipush 6, 2) := by decide +kernel
theorem dL_pumps_31 : decode cL_pumps 31 = .ok (.invokevirtual 31, 3) := by decide +kernel
theorem dL_pumps_34 : decode cL_pumps 34 = .ok (.istore 7, 2) := by decide +kernel
theorem dL_pumps_36 : decode cL_pumps 36 = .ok (.aload_n 0, 1) := by decide +kernel
theorem dL_pumps_37 : decode cL_pumps 37 = .ok (.iconst 1, 1) := by decide +kernel
theorem dL_pumps_38 : decode cL_pumps 38 = .ok (.invokevirtual 31, 3) := by decide +kernel
theorem dL_pumps_41 : decode cL_pumps 41 = .ok (.istore 8, 2) := by decide +kernel
theorem dL_pumps_43 : decode cL_pumps 43 = .ok (.aload_n 0, 1) := by decide +kernel
theorem dL_pumps_44 : decode cL_pumps 44 = .ok (.iload 8, 2) := by decide +kernel
theorem dL_pumps_46 : decode cL_pumps 46 = .ok (.iconst 1, 1) := by decide +kernel
theorem dL_pumps_47 : decode cL_pumps 47 = .ok (.invokevirtual 44, 3) := by decide +kernel
theorem dL_pumps_50 : decode cL_pumps 50 = .ok (.istore 9, 2) := by decide +kernel
theorem dL_pumps_52 : decode cL_pumps 52 = .ok (.aload_n 0, 1) := by decide +kernel
theorem dL_pumps_53 : decode cL_pumps 53 = .ok (.invokevirtual 47, 3) := by decide +kernel
theorem dL_pumps_56 : decode cL_pumps 56 = .ok (.fstore 10, 2) := by decide +kernel
theorem dL_pumps_58 : decode cL_pumps 58 = .ok (.aload_n 0, 1) := by decide +kernel
theorem dL_pumps_59 : decode cL_pumps 59 = .ok (.invokestatic 101, 3) := by decide +kernel
theorem dL_pumps_62 : decode cL_pumps 62 = .ok (.lload_n 3, 1) := by decide +kernel
theorem dL_pumps_63 : decode cL_pumps 63 = .ok (.lcmp, 1) := by decide +kernel
theorem dL_pumps_64 : decode cL_pumps 64 = .ok (.ifCond .eq 5, 3) := by decide +kernel
theorem dL_pumps_67 : decode cL_pumps 67 = .ok (.iconst 0, 1) := by decide +kernel
theorem dL_pumps_68 : decode cL_pumps 68 = .ok (.ireturn, 1) := by decide +kernel
theorem dL_pumps_69 : decode cL_pumps 69 = .ok (.aload_n 0, 1) := by decide +kernel
theorem dL_pumps_70 : decode cL_pumps 70 = .ok (.iload_n 2, 1) := by decide +kernel
theorem dL_pumps_71 : decode cL_pumps 71 = .ok (.invokevirtual 98, 3) := by decide +kernel
theorem dL_pumps_74 : decode cL_pumps 74 = .ok (.istore 11, 2) := by decide +kernel
theorem dL_pumps_76 : decode cL_pumps 76 = .ok (.iload 11, 2) := by decide +kernel
theorem dL_pumps_78 : decode cL_pumps 78 = .ok (.bipush (-5), 2) := by decide +kernel
theorem dL_pumps_80 : decode cL_pumps 80 = .ok (.if_icmp .ne 33, 3) := by decide +kernel
theorem dL_pumps_83 : decode cL_pumps 83 = .ok (.aload_n 0, 1) := by decide +kernel
theorem dL_pumps_84 : decode cL_pumps 84 = .ok (.iconst 4, 1) := by decide +kernel
theorem dL_pumps_85 : decode cL_pumps 85 = .ok (.invokevirtual 31, 3) := by decide +kernel
theorem dL_pumps_88 : decode cL_pumps 88 = .ok (.bipush 40, 2) := by decide +kernel
theorem dL_pumps_90 : decode cL_pumps 90 = .ok (.if_icmp .le 21, 3) := by decide +kernel
theorem dL_pumps_93 : decode cL_pumps 93 = .ok (.iload 5, 2) := by decide +kernel
theorem dL_pumps_95 : decode cL_pumps 95 = .ok (.ifCond .ne 16, 3) := by decide +kernel
theorem dL_pumps_98 : decode cL_pumps 98 = .ok (.aload_n 0, 1) := by decide +kernel
theorem dL_pumps_99 : decode cL_pumps 99 = .ok (.invokestatic 101, 3) := by decide +kernel
theorem dL_pumps_102 : decode cL_pumps 102 = .ok (.lload_n 3, 1) := by decide +kernel
theorem dL_pumps_103 : decode cL_pumps 103 = .ok (.lcmp, 1) := by decide +kernel
theorem dL_pumps_104 : decode cL_pumps 104 = .ok (.ifCond .ne 7, 3) := by decide +kernel
theorem dL_pumps_107 : decode cL_pumps 107 = .ok (.iconst 1, 1) := by decide +kernel
theorem dL_pumps_108 : decode cL_pumps 108 = .ok (.goto 4, 3) := by decide +kernel
theorem dL_pumps_111 : decode cL_pumps 111 = .ok (.iconst 0, 1) := by decide +kernel
theorem dL_pumps_112 : decode cL_pumps 112 = .ok (.ireturn, 1) := by decide +kernel
theorem dL_pumps_113 : decode cL_pumps 113 = .ok (.iload 11, 2) := by decide +kernel
theorem dL_pumps_115 : decode cL_pumps 115 = .ok (.iload 5, 2) := by decide +kernel
theorem dL_pumps_117 : decode cL_pumps 117 = .ok (.if_icmp .ne 42, 3) := by decide +kernel
theorem dL_pumps_120 : decode cL_pumps 120 = .ok (.aload_n 0, 1) := by decide +kernel
theorem dL_pumps_121 : decode cL_pumps 121 = .ok (.iconst 4, 1) := by decide +kernel
theorem dL_pumps_122 : decode cL_pumps 122 = .ok (.invokevirtual 31, 3) := by decide +kernel
theorem dL_pumps_125 : decode cL_pumps 125 = .ok (.iload 6, 2) := by decide +kernel
theorem dL_pumps_127 : decode cL_pumps 127 = .ok (.if_icmp .ne 32, 3) := by decide +kernel
theorem dL_pumps_130 : decode cL_pumps 130 = .ok (.aload_n 0, 1) := by decide +kernel
theorem dL_pumps_131 : decode cL_pumps 131 = .ok (.bipush 6, 2) := by decide +kernel
theorem dL_pumps_133 : decode cL_pumps 133 = .ok (.invokevirtual 31, 3) := by decide +kernel
theorem dL_pumps_136 : decode cL_pumps 136 = .ok (.iload 7, 2) := by decide +kernel
theorem dL_pumps_138 : decode cL_pumps 138 = .ok (.iload 11, 2) := by decide +kernel
theorem dL_pumps_140 : decode cL_pumps 140 = .ok (.iadd, 1) := by decide +kernel
theorem dL_pumps_141 : decode cL_pumps 141 = .ok (.if_icmp .ne 18, 3) := by decide +kernel
theorem dL_pumps_144 : decode cL_pumps 144 = .ok (.aload_n 0, 1) := by decide +kernel
theorem dL_pumps_145 : decode cL_pumps 145 = .ok (.iload 8, 2) := by decide +kernel
theorem dL_pumps_147 : decode cL_pumps 147 = .ok (.iconst 1, 1) := by decide +kernel
theorem dL_pumps_148 : decode cL_pumps 148 = .ok (.invokevirtual 44, 3) := by decide +kernel
theorem dL_pumps_151 : decode cL_pumps 151 = .ok (.iload 9, 2) := by decide +kernel
theorem dL_pumps_153 : decode cL_pumps 153 = .ok (.iload 11, 2) := by decide +kernel
theorem dL_pumps_155 : decode cL_pumps 155 = .ok (.isub, 1) := by decide +kernel
theorem dL_pumps_156 : decode cL_pumps 156 = .ok (.if_icmp .eq 5, 3) := by decide +kernel
theorem dL_pumps_159 : decode cL_pumps 159 = .ok (.iconst 0, 1) := by decide +kernel
theorem dL_pumps_160 : decode cL_pumps 160 = .ok (.ireturn, 1) := by decide +kernel
theorem dL_pumps_161 : decode cL_pumps 161 = .ok (.iload 11, 2) := by decide +kernel
theorem dL_pumps_163 : decode cL_pumps 163 = .ok (.iconst 1, 1) := by decide +kernel
theorem dL_pumps_164 : decode cL_pumps 164 = .ok (.isub, 1) := by decide +kernel
theorem dL_pumps_165 : decode cL_pumps 165 = .ok (.istore 12, 2) := by decide +kernel
theorem dL_pumps_167 : decode cL_pumps 167 = .ok (.iload 12, 2) := by decide +kernel
theorem dL_pumps_169 : decode cL_pumps 169 = .ok (.ifCond .lt 83, 3) := by decide +kernel
theorem dL_pumps_172 : decode cL_pumps 172 = .ok (.fload 10, 2) := by decide +kernel
theorem dL_pumps_174 : decode cL_pumps 174 = .ok (.aload_n 0, 1) := by decide +kernel
theorem dL_pumps_175 : decode cL_pumps 175 = .ok (.iload 12, 2) := by decide +kernel
theorem dL_pumps_177 : decode cL_pumps 177 = .ok (.iconst 2, 1) := by decide +kernel
theorem dL_pumps_178 : decode cL_pumps 178 = .ok (.invokevirtual 39, 3) := by decide +kernel
theorem dL_pumps_181 : decode cL_pumps 181 = .ok (.invokestatic 111, 3) := by decide +kernel
theorem dL_pumps_184 : decode cL_pumps 184 = .ok (.fadd, 1) := by decide +kernel
theorem dL_pumps_185 : decode cL_pumps 185 = .ok (.fstore 10, 2) := by decide +kernel
theorem dL_pumps_187 : decode cL_pumps 187 = .ok (.aload_n 0, 1) := by decide +kernel
theorem dL_pumps_188 : decode cL_pumps 188 = .ok (.iload 12, 2) := by decide +kernel
theorem dL_pumps_190 : decode cL_pumps 190 = .ok (.iconst 1, 1) := by decide +kernel
theorem dL_pumps_191 : decode cL_pumps 191 = .ok (.invokevirtual 39, 3) := by decide +kernel
theorem dL_pumps_194 : decode cL_pumps 194 = .ok (.iload 8, 2) := by decide +kernel
theorem dL_pumps_196 : decode cL_pumps 196 = .ok (.if_icmp .ne 48, 3) := by decide +kernel
theorem dL_pumps_199 : decode cL_pumps 199 = .ok (.aload_n 0, 1) := by decide +kernel
theorem dL_pumps_200 : decode cL_pumps 200 = .ok (.aload_n 0, 1) := by decide +kernel
theorem dL_pumps_201 : decode cL_pumps 201 = .ok (.iload 12, 2) := by decide +kernel
theorem dL_pumps_203 : decode cL_pumps 203 = .ok (.iconst 0, 1) := by decide +kernel
theorem dL_pumps_204 : decode cL_pumps 204 = .ok (.invokevirtual 39, 3) := by decide +kernel
theorem dL_pumps_207 : decode cL_pumps 207 = .ok (.invokevirtual 115, 3) := by decide +kernel
theorem dL_pumps_210 : decode cL_pumps 210 = .ok (.iconst 1, 1) := by decide +kernel
theorem dL_pumps_211 : decode cL_pumps 211 = .ok (.if_icmp .ne 33, 3) := by decide +kernel
theorem dL_pumps_214 : decode cL_pumps 214 = .ok (.aload_n 0, 1) := by decide +kernel
theorem dL_pumps_215 : decode cL_pumps 215 = .ok (.iconst 0, 1) := by decide +kernel
theorem dL_pumps_216 : decode cL_pumps 216 = .ok (.bipush 29, 2) := by decide +kernel
theorem dL_pumps_218 : decode cL_pumps 218 = .ok (.aload_n 0, 1) := by decide +kernel
theorem dL_pumps_219 : decode cL_pumps 219 = .ok (.iload 12, 2) := by decide +kernel
theorem dL_pumps_221 : decode cL_pumps 221 = .ok (.iconst 0, 1) := by decide +kernel
theorem dL_pumps_222 : decode cL_pumps 222 = .ok (.invokevirtual 39, 3) := by decide +kernel
theorem dL_pumps_225 : decode cL_pumps 225 = .ok (.iconst 1, 1) := by decide +kernel
theorem dL_pumps_226 : decode cL_pumps 226 = .ok (.invokevirtual 68, 3) := by decide +kernel
theorem dL_pumps_229 : decode cL_pumps 229 = .ok (.bipush (-5), 2) := by decide +kernel
theorem dL_pumps_231 : decode cL_pumps 231 = .ok (.if_icmp .ne 13, 3) := by decide +kernel
theorem dL_pumps_234 : decode cL_pumps 234 = .ok (.aload_n 0, 1) := by decide +kernel
theorem dL_pumps_235 : decode cL_pumps 235 = .ok (.iconst 0, 1) := by decide +kernel
theorem dL_pumps_236 : decode cL_pumps 236 = .ok (.iconst 0, 1) := by decide +kernel
theorem dL_pumps_237 : decode cL_pumps 237 = .ok (.invokevirtual 118, 3) := by decide +kernel
theorem dL_pumps_240 : decode cL_pumps 240 = .ok (.iconst 3, 1) := by decide +kernel
theorem dL_pumps_241 : decode cL_pumps 241 = .ok (.if_icmp .eq 5, 3) := by decide +kernel
theorem dL_pumps_244 : decode cL_pumps 244 = .ok (.iconst 0, 1) := by decide +kernel
theorem dL_pumps_245 : decode cL_pumps 245 = .ok (.ireturn, 1) := by decide +kernel
theorem dL_pumps_246 : decode cL_pumps 246 = .ok (.iinc 12 (-1), 3) := by decide +kernel
theorem dL_pumps_249 : decode cL_pumps 249 = .ok (.goto (-82), 3) := by decide +kernel
theorem dL_pumps_252 : decode cL_pumps 252 = .ok (.fload 10, 2) := by decide +kernel
theorem dL_pumps_254 : decode cL_pumps 254 = .ok (.invokestatic 51, 3) := by decide +kernel
theorem dL_pumps_257 : decode cL_pumps 257 = .ok (.aload_n 0, 1) := by decide +kernel
theorem dL_pumps_258 : decode cL_pumps 258 = .ok (.invokevirtual 47, 3) := by decide +kernel
theorem dL_pumps_261 : decode cL_pumps 261 = .ok (.invokestatic 51, 3) := by decide +kernel
theorem dL_pumps_264 : decode cL_pumps 264 = .ok (.if_icmp .eq 5, 3) := by decide +kernel
theorem dL_pumps_267 : decode cL_pumps 267 = .ok (.iconst 0, 1) := by decide +kernel
theorem dL_pumps_268 : decode cL_pumps 268 = .ok (.ireturn, 1) := by decide +kernel
theorem dL_pumps_269 : decode cL_pumps 269 = .ok (.aload_n 0, 1) := by decide +kernel
theorem dL_pumps_270 : decode cL_pumps 270 = .ok (.invokevirtual 122, 3) := by decide +kernel
theorem dL_pumps_273 : decode cL_pumps 273 = .ok (.pop, 1) := by decide +kernel
theorem dL_pumps_274 : decode cL_pumps 274 = .ok (.aload_n 0, 1) := by decide +kernel
theorem dL_pumps_275 : decode cL_pumps 275 = .ok (.invokestatic 101, 3) := by decide +kernel
theorem dL_pumps_278 : decode cL_pumps 278 = .ok (.lload_n 3, 1) := by decide +kernel
theorem dL_pumps_279 : decode cL_pumps 279 = .ok (.lcmp, 1) := by decide +kernel
theorem dL_pumps_280 : decode cL_pumps 280 = .ok (.ifCond .ne 7, 3) := by decide +kernel
theorem dL_pumps_283 : decode cL_pumps 283 = .ok (.iconst 1, 1) := by decide +kernel
theorem dL_pumps_284 : decode cL_pumps 284 = .ok (.goto 4, 3) := by decide +kernel
theorem dL_pumps_287 : decode cL_pumps 287 = .ok (.iconst 0, 1) := by decide +kernel
theorem dL_pumps_288 : decode cL_pumps 288 = .ok (.ireturn, 1) := by decide +kernel
theorem dL_strokes_0 : decode cL_strokes 0 = .ok (.aload_n 0, 1) := by decide +kernel
theorem dL_strokes_1 : decode cL_strokes 1 = .ok (.invokestatic 101, 3) := by decide +kernel
theorem dL_strokes_4 : decode cL_strokes 4 = .ok (.lstore_n 1, 1) := by decide +kernel
theorem dL_strokes_5 : decode cL_strokes 5 = .ok (.aload_n 0, 1) := by decide +kernel
theorem dL_strokes_6 : decode cL_strokes 6 = .ok (.invokevirtual 125, 3) := by decide +kernel
theorem dL_strokes_9 : decode cL_strokes 9 = .ok (.istore_n 3, 1) := by decide +kernel
theorem dL_strokes_10 : decode cL_strokes 10 = .ok (.aload_n 0, 1) := by decide +kernel
theorem dL_strokes_11 : decode cL_strokes 11 = .ok (.aload_n 0, 1) := by decide +kernel
theorem dL_strokes_12 : decode cL_strokes 12 = .ok (.iconst 1, 1) := by decide +kernel
theorem dL_strokes_13 : decode cL_strokes 13 = .ok (.invokevirtual 31, 3) := by decide +kernel
theorem dL_strokes_16 : decode cL_strokes 16 = .ok (.iconst 0, 1) := by decide +kernel
theorem dL_strokes_17 : decode cL_strokes 17 = .ok (.invokevirtual 128, 3) := by decide +kernel
theorem dL_strokes_20 : decode cL_strokes 20 = .ok (.istore 4, 2) := by decide +kernel
theorem dL_strokes_22 : decode cL_strokes 22 = .ok (.iload 4, 2) := by decide +kernel
theorem dL_strokes_24 : decode cL_strokes 24 = .ok (.iconst (-1), 1) := by decide +kernel
theorem dL_strokes_25 : decode cL_strokes 25 = .ok (.if_icmp .ne 15, 3) := by decide +kernel
theorem dL_strokes_28 : decode cL_strokes 28 = .ok (.iload_n 3, 1) := by decide +kernel
theorem dL_strokes_29 : decode cL_strokes 29 = .ok (.bipush (-6), 2) := by decide +kernel
theorem dL_strokes_31 : decode cL_strokes 31 = .ok (.if_icmp .ne 7, 3) := by decide +kernel
theorem dL_strokes_34 : decode cL_strokes 34 = .ok (.iconst 1, 1) := by decide +kernel
theorem dL_strokes_35 : decode cL_strokes 35 = .ok (.goto 4, 3) := by decide +kernel
theorem dL_strokes_38 : decode cL_strokes 38 = .ok (.iconst 0, 1) := by decide +kernel
theorem dL_strokes_39 : decode cL_strokes 39 = .ok (.ireturn, 1) := by decide +kernel
theorem dL_strokes_40 : decode cL_strokes 40 = .ok (.aload_n 0, 1) := by decide +kernel
theorem dL_strokes_41 : decode cL_strokes 41 = .ok (.iload_n 3, 1) := by decide +kernel
theorem dL_strokes_42 : decode cL_strokes 42 = .ok (.aload_n 0, 1) := by decide +kernel
theorem dL_strokes_43 : decode cL_strokes 43 = .ok (.iload 4, 2) := by decide +kernel
theorem dL_strokes_45 : decode cL_strokes 45 = .ok (.iconst 1, 1) := by decide +kernel
theorem dL_strokes_46 : decode cL_strokes 46 = .ok (.invokevirtual 35, 3) := by decide +kernel
theorem dL_strokes_49 : decode cL_strokes 49 = .ok (.invokestatic 131, 3) := by decide +kernel
theorem dL_strokes_52 : decode cL_strokes 52 = .ok (.istore 5, 2) := by decide +kernel
theorem dL_strokes_54 : decode cL_strokes 54 = .ok (.iconst 1, 1) := by decide +kernel
theorem dL_strokes_55 : decode cL_strokes 55 = .ok (.istore 6, 2) := by decide +kernel
theorem dL_strokes_57 : decode cL_strokes 57 = .ok (.iload 6, 2) := by decide +kernel
theorem dL_strokes_59 : decode cL_strokes 59 = .ok (.bipush 10, 2) := by decide +kernel
theorem dL_strokes_61 : decode cL_strokes 61 = .ok (.if_icmp .gt 46, 3) := by decide +kernel
theorem dL_strokes_64 : decode cL_strokes 64 = .ok (.aload_n 0, 1) := by decide +kernel
theorem dL_strokes_65 : decode cL_strokes 65 = .ok (.iload 6, 2) := by decide +kernel
theorem dL_strokes_67 : decode cL_strokes 67 = .ok (.aload_n 0, 1) := by decide +kernel
theorem dL_strokes_68 : decode cL_strokes 68 = .ok (.iload 4, 2) := by decide +kernel
theorem dL_strokes_70 : decode cL_strokes 70 = .ok (.iconst 1, 1) := by decide +kernel
theorem dL_strokes_71 : decode cL_strokes 71 = .ok (.invokevirtual 35, 3) := by decide +kernel
theorem dL_strokes_74 : decode cL_strokes 74 = .ok (.invokestatic 131, 3) := by decide +kernel
theorem dL_strokes_77 : decode cL_strokes 77 = .ok (.istore 7, 2) := by decide +kernel
theorem dL_strokes_79 : decode cL_strokes 79 = .ok (.iload 7, 2) := by decide +kernel
theorem dL_strokes_81 : decode cL_strokes 81 = .ok (.iload 5, 2) := by decide +kernel
theorem dL_strokes_83 : decode cL_strokes 83 = .ok (.if_icmp .lt 16, 3) := by decide +kernel
theorem dL_strokes_86 : decode cL_strokes 86 = .ok (.iload 7, 2) := by decide +kernel
theorem dL_strokes_88 : decode cL_strokes 88 = .ok (.iload 5, 2) := by decide +kernel
theorem dL_strokes_90 : decode cL_strokes 90 = .ok (.if_icmp .ne 11, 3) := by decide +kernel
theorem dL_strokes_93 : decode cL_strokes 93 = .ok (.iload 6, 2) := by decide +kernel
theorem dL_strokes_95 : decode cL_strokes 95 = .ok (.iload_n 3, 1) := by decide +kernel
theorem dL_strokes_96 : decode cL_strokes 96 = .ok (.if_icmp .ge 5, 3) := by decide +kernel
theorem dL_strokes_99 : decode cL_strokes 99 = .ok (.iconst 0, 1) := by decide +kernel
theorem dL_strokes_100 : decode cL_strokes 100 = .ok (.ireturn, 1) := by decide +kernel
theorem dL_strokes_101 : decode cL_strokes 101 = .ok (.iinc 6 1, 3) := by decide +kernel
theorem dL_strokes_104 : decode cL_strokes 104 = .ok (.goto (-47), 3) := by decide +kernel
theorem dL_strokes_107 : decode cL_strokes 107 = .ok (.aload_n 0, 1) := by decide +kernel
theorem dL_strokes_108 : decode cL_strokes 108 = .ok (.invokestatic 101, 3) := by decide +kernel
theorem dL_strokes_111 : decode cL_strokes 111 = .ok (.lload_n 1, 1) := by decide +kernel
theorem dL_strokes_112 : decode cL_strokes 112 = .ok (.lcmp, 1) := by decide +kernel
theorem dL_strokes_113 : decode cL_strokes 113 = .ok (.ifCond .ne 7, 3) := by decide +kernel
theorem dL_strokes_116 : decode cL_strokes 116 = .ok (.iconst 1, 1) := by decide +kernel
theorem dL_strokes_117 : decode cL_strokes 117 = .ok (.goto 4, 3) := by decide +kernel
theorem dL_strokes_120 : decode cL_strokes 120 = .ok (.iconst 0, 1) := by decide +kernel
theorem dL_strokes_121 : decode cL_strokes 121 = .ok (.ireturn, 1) := by decide +kernel
theorem dL_groansBy_0 : decode cL_groansBy 0 = .ok (.bipush 30, 2) := by decide +kernel
theorem dL_groansBy_2 : decode cL_groansBy 2 = .ok (.aload_n 0, 1) := by decide +kernel
theorem dL_groansBy_3 : decode cL_groansBy 3 = .ok (.iconst 3, 1) := by decide +kernel
theorem dL_groansBy_4 : decode cL_groansBy 4 = .ok (.invokevirtual 31, 3) := by decide +kernel
theorem dL_groansBy_7 : decode cL_groansBy 7 = .ok (.iload_n 1, 1) := by decide +kernel
theorem dL_groansBy_8 : decode cL_groansBy 8 = .ok (.iadd, 1) := by decide +kernel
theorem dL_groansBy_9 : decode cL_groansBy 9 = .ok (.invokestatic 135, 3) := by decide +kernel
theorem dL_groansBy_12 : decode cL_groansBy 12 = .ok (.istore_n 3, 1) := by decide +kernel
theorem dL_groansBy_13 : decode cL_groansBy 13 = .ok (.iconst 1, 1) := by decide +kernel
theorem dL_groansBy_14 : decode cL_groansBy 14 = .ok (.iload_n 3, 1) := by decide +kernel
theorem dL_groansBy_15 : decode cL_groansBy 15 = .ok (.bipush 10, 2) := by decide +kernel
theorem dL_groansBy_17 : decode cL_groansBy 17 = .ok (.idiv, 1) := by decide +kernel
theorem dL_groansBy_18 : decode cL_groansBy 18 = .ok (.iadd, 1) := by decide +kernel
theorem dL_groansBy_19 : decode cL_groansBy 19 = .ok (.istore 4, 2) := by decide +kernel
theorem dL_groansBy_21 : decode cL_groansBy 21 = .ok (.iload_n 3, 1) := by decide +kernel
theorem dL_groansBy_22 : decode cL_groansBy 22 = .ok (.iload_n 2, 1) := by decide +kernel
theorem dL_groansBy_23 : decode cL_groansBy 23 = .ok (.if_icmp .ge 26, 3) := by decide +kernel
theorem dL_groansBy_26 : decode cL_groansBy 26 = .ok (.bipush 30, 2) := by decide +kernel
theorem dL_groansBy_28 : decode cL_groansBy 28 = .ok (.iload_n 3, 1) := by decide +kernel
theorem dL_groansBy_29 : decode cL_groansBy 29 = .ok (.iload_n 1, 1) := by decide +kernel
theorem dL_groansBy_30 : decode cL_groansBy 30 = .ok (.iadd, 1) := by decide +kernel
theorem dL_groansBy_31 : decode cL_groansBy 31 = .ok (.invokestatic 135, 3) := by decide +kernel
theorem dL_groansBy_34 : decode cL_groansBy 34 = .ok (.istore_n 3, 1) := by decide +kernel
theorem dL_groansBy_35 : decode cL_groansBy 35 = .ok (.iload 4, 2) := by decide +kernel
theorem dL_groansBy_37 : decode cL_groansBy 37 = .ok (.iconst 1, 1) := by decide +kernel
theorem dL_groansBy_38 : decode cL_groansBy 38 = .ok (.iload_n 3, 1) := by decide +kernel
theorem dL_groansBy_39 : decode cL_groansBy 39 = .ok (.bipush 10, 2) := by decide +kernel
theorem dL_groansBy_41 : decode cL_groansBy 41 = .ok (.idiv, 1) := by decide +kernel
theorem dL_groansBy_42 : decode cL_groansBy 42 = .ok (.iadd, 1) := by decide +kernel
theorem dL_groansBy_43 : decode cL_groansBy 43 = .ok (.iadd, 1) := by decide +kernel
theorem dL_groansBy_44 : decode cL_groansBy 44 = .ok (.istore 4, 2) := by decide +kernel
theorem dL_groansBy_46 : decode cL_groansBy 46 = .ok (.goto (-25), 3) := by decide +kernel
theorem dL_groansBy_49 : decode cL_groansBy 49 = .ok (.iload 4, 2) := by decide +kernel
theorem dL_groansBy_51 : decode cL_groansBy 51 = .ok (.ireturn, 1) := by decide +kernel
theorem dL_fits_0 : decode cL_fits 0 = .ok (.aload_n 0, 1) := by decide +kernel
theorem dL_fits_1 : decode cL_fits 1 = .ok (.invokevirtual 138, 3) := by decide +kernel
theorem dL_fits_4 : decode cL_fits 4 = .ok (.ifCond .eq 18, 3) := by decide +kernel
theorem dL_fits_7 : decode cL_fits 7 = .ok (.aload_n 0, 1) := by decide +kernel
theorem dL_fits_8 : decode cL_fits 8 = .ok (.iload_n 1, 1) := by decide +kernel
theorem dL_fits_9 : decode cL_fits 9 = .ok (.invokestatic 142, 3) := by decide +kernel
theorem dL_fits_12 : decode cL_fits 12 = .ok (.ifCond .eq 10, 3) := by decide +kernel
theorem dL_fits_15 : decode cL_fits 15 = .ok (.aload_n 0, 1) := by decide +kernel
theorem dL_fits_16 : decode cL_fits 16 = .ok (.invokestatic 146, 3) := by decide +kernel
theorem dL_fits_19 : decode cL_fits 19 = .ok (.ifCond .ne 5, 3) := by decide +kernel
theorem dL_fits_22 : decode cL_fits 22 = .ok (.iconst 0, 1) := by decide +kernel
theorem dL_fits_23 : decode cL_fits 23 = .ok (.ireturn, 1) := by decide +kernel
theorem dL_fits_24 : decode cL_fits 24 = .ok (.iconst 1, 1) := by decide +kernel
theorem dL_fits_25 : decode cL_fits 25 = .ok (.istore_n 2, 1) := by decide +kernel
theorem dL_fits_26 : decode cL_fits 26 = .ok (.iload_n 2, 1) := by decide +kernel
theorem dL_fits_27 : decode cL_fits 27 = .ok (.bipush 31, 2) := by decide +kernel
theorem dL_fits_29 : decode cL_fits 29 = .ok (.if_icmp .ge 24, 3) := by decide +kernel
theorem dL_fits_32 : decode cL_fits 32 = .ok (.aload_n 0, 1) := by decide +kernel
theorem dL_fits_33 : decode cL_fits 33 = .ok (.iload_n 2, 1) := by decide +kernel
theorem dL_fits_34 : decode cL_fits 34 = .ok (.invokevirtual 150, 3) := by decide +kernel
theorem dL_fits_37 : decode cL_fits 37 = .ok (.aload_n 0, 1) := by decide +kernel
theorem dL_fits_38 : decode cL_fits 38 = .ok (.iload_n 2, 1) := by decide +kernel
theorem dL_fits_39 : decode cL_fits 39 = .ok (.invokevirtual 152, 3) := by decide +kernel
theorem dL_fits_42 : decode cL_fits 42 = .ok (.if_icmp .eq 5, 3) := by decide +kernel
theorem dL_fits_45 : decode cL_fits 45 = .ok (.iconst 0, 1) := by decide +kernel
theorem dL_fits_46 : decode cL_fits 46 = .ok (.ireturn, 1) := by decide +kernel
theorem dL_fits_47 : decode cL_fits 47 = .ok (.iinc 2 1, 3) := by decide +kernel
theorem dL_fits_50 : decode cL_fits 50 = .ok (.goto (-24), 3) := by decide +kernel
theorem dL_fits_53 : decode cL_fits 53 = .ok (.iconst 1, 1) := by decide +kernel
theorem dL_fits_54 : decode cL_fits 54 = .ok (.istore_n 2, 1) := by decide +kernel
theorem dL_fits_55 : decode cL_fits 55 = .ok (.iload_n 2, 1) := by decide +kernel
theorem dL_fits_56 : decode cL_fits 56 = .ok (.aload_n 0, 1) := by decide +kernel
theorem dL_fits_57 : decode cL_fits 57 = .ok (.iconst 0, 1) := by decide +kernel
theorem dL_fits_58 : decode cL_fits 58 = .ok (.invokevirtual 31, 3) := by decide +kernel
theorem dL_fits_61 : decode cL_fits 61 = .ok (.if_icmp .ge 53, 3) := by decide +kernel
theorem dL_fits_64 : decode cL_fits 64 = .ok (.aload_n 0, 1) := by decide +kernel
theorem dL_fits_65 : decode cL_fits 65 = .ok (.aload_n 0, 1) := by decide +kernel
theorem dL_fits_66 : decode cL_fits 66 = .ok (.iload_n 2, 1) := by decide +kernel
theorem dL_fits_67 : decode cL_fits 67 = .ok (.iconst 1, 1) := by decide +kernel
theorem dL_fits_68 : decode cL_fits 68 = .ok (.isub, 1) := by decide +kernel
theorem dL_fits_69 : decode cL_fits 69 = .ok (.invokevirtual 155, 3) := by decide +kernel
theorem dL_fits_72 : decode cL_fits 72 = .ok (.aload_n 0, 1) := by decide +kernel
theorem dL_fits_73 : decode cL_fits 73 = .ok (.iconst 4, 1) := by decide +kernel
theorem dL_fits_74 : decode cL_fits 74 = .ok (.invokevirtual 31, 3) := by decide +kernel
theorem dL_fits_77 : decode cL_fits 77 = .ok (.invokevirtual 158, 3) := by decide +kernel
theorem dL_fits_80 : decode cL_fits 80 = .ok (.invokestatic 111, 3) := by decide +kernel
theorem dL_fits_83 : decode cL_fits 83 = .ok (.fstore_n 3, 1) := by decide +kernel
theorem dL_fits_84 : decode cL_fits 84 = .ok (.aload_n 0, 1) := by decide +kernel
theorem dL_fits_85 : decode cL_fits 85 = .ok (.aload_n 0, 1) := by decide +kernel
theorem dL_fits_86 : decode cL_fits 86 = .ok (.iload_n 2, 1) := by decide +kernel
theorem dL_fits_87 : decode cL_fits 87 = .ok (.invokevirtual 155, 3) := by decide +kernel
theorem dL_fits_90 : decode cL_fits 90 = .ok (.aload_n 0, 1) := by decide +kernel
theorem dL_fits_91 : decode cL_fits 91 = .ok (.iconst 4, 1) := by decide +kernel
theorem dL_fits_92 : decode cL_fits 92 = .ok (.invokevirtual 31, 3) := by decide +kernel
theorem dL_fits_95 : decode cL_fits 95 = .ok (.invokevirtual 158, 3) := by decide +kernel
theorem dL_fits_98 : decode cL_fits 98 = .ok (.invokestatic 111, 3) := by decide +kernel
theorem dL_fits_101 : decode cL_fits 101 = .ok (.fload_n 3, 1) := by decide +kernel
theorem dL_fits_102 : decode cL_fits 102 = .ok (.fcmp .l, 1) := by decide +kernel
theorem dL_fits_103 : decode cL_fits 103 = .ok (.ifCond .le 5, 3) := by decide +kernel
theorem dL_fits_106 : decode cL_fits 106 = .ok (.iconst 0, 1) := by decide +kernel
theorem dL_fits_107 : decode cL_fits 107 = .ok (.ireturn, 1) := by decide +kernel
theorem dL_fits_108 : decode cL_fits 108 = .ok (.iinc 2 1, 3) := by decide +kernel
theorem dL_fits_111 : decode cL_fits 111 = .ok (.goto (-56), 3) := by decide +kernel
theorem dL_fits_114 : decode cL_fits 114 = .ok (.iconst 0, 1) := by decide +kernel
theorem dL_fits_115 : decode cL_fits 115 = .ok (.istore_n 2, 1) := by decide +kernel
theorem dL_fits_116 : decode cL_fits 116 = .ok (.iload_n 2, 1) := by decide +kernel
theorem dL_fits_117 : decode cL_fits 117 = .ok (.iconst 4, 1) := by decide +kernel
theorem dL_fits_118 : decode cL_fits 118 = .ok (.if_icmp .ge 87, 3) := by decide +kernel
theorem dL_fits_121 : decode cL_fits 121 = .ok (.iconst 1, 1) := by decide +kernel
theorem dL_fits_122 : decode cL_fits 122 = .ok (.istore_n 3, 1) := by decide +kernel
theorem dL_fits_123 : decode cL_fits 123 = .ok (.iload_n 3, 1) := by decide +kernel
theorem dL_fits_124 : decode cL_fits 124 = .ok (.aload_n 0, 1) := by decide +kernel
theorem dL_fits_125 : decode cL_fits 125 = .ok (.iload_n 2, 1) := by decide +kernel
theorem dL_fits_126 : decode cL_fits 126 = .ok (.iconst 1, 1) := by decide +kernel
theorem dL_fits_127 : decode cL_fits 127 = .ok (.invokevirtual 44, 3) := by decide +kernel
theorem dL_fits_130 : decode cL_fits 130 = .ok (.if_icmp .ge 38, 3) := by decide +kernel
theorem dL_fits_133 : decode cL_fits 133 = .ok (.aload_n 0, 1) := by decide +kernel
theorem dL_fits_134 : decode cL_fits 134 = .ok (.aload_n 0, 1) := by decide +kernel
theorem dL_fits_135 : decode cL_fits 135 = .ok (.iload_n 2, 1) := by decide +kernel
theorem dL_fits_136 : decode cL_fits 136 = .ok (.iload_n 3, 1) := by decide +kernel
theorem dL_fits_137 : decode cL_fits 137 = .ok (.invokevirtual 128, 3) := by decide +kernel
theorem dL_fits_140 : decode cL_fits 140 = .ok (.iconst 1, 1) := by decide +kernel
theorem dL_fits_141 : decode cL_fits 141 = .ok (.invokevirtual 35, 3) := by decide +kernel
theorem dL_fits_144 : decode cL_fits 144 = .ok (.aload_n 0, 1) := by decide +kernel
theorem dL_fits_145 : decode cL_fits 145 = .ok (.aload_n 0, 1) := by decide +kernel
theorem dL_fits_146 : decode cL_fits 146 = .ok (.iload_n 2, 1) := by decide +kernel
theorem dL_fits_147 : decode cL_fits 147 = .ok (.iload_n 3, 1) := by decide +kernel
theorem dL_fits_148 : decode cL_fits 148 = .ok (.iconst 1, 1) := by decide +kernel
theorem dL_fits_149 : decode cL_fits 149 = .ok (.isub, 1) := by decide +kernel
theorem dL_fits_150 : decode cL_fits 150 = .ok (.invokevirtual 128, 3) := by decide +kernel
theorem dL_fits_153 : decode cL_fits 153 = .ok (.iconst 1, 1) := by decide +kernel
theorem dL_fits_154 : decode cL_fits 154 = .ok (.invokevirtual 35, 3) := by decide +kernel
theorem dL_fits_157 : decode cL_fits 157 = .ok (.if_icmp .gt 5, 3) := by decide +kernel
theorem dL_fits_160 : decode cL_fits 160 = .ok (.iconst 0, 1) := by decide +kernel
theorem dL_fits_161 : decode cL_fits 161 = .ok (.ireturn, 1) := by decide +kernel
theorem dL_fits_162 : decode cL_fits 162 = .ok (.iinc 3 1, 3) := by decide +kernel
theorem dL_fits_165 : decode cL_fits 165 = .ok (.goto (-42), 3) := by decide +kernel
theorem dL_fits_168 : decode cL_fits 168 = .ok (.iload_n 2, 1) := by decide +kernel
theorem dL_fits_169 : decode cL_fits 169 = .ok (.ifCond .le 30, 3) := by decide +kernel
theorem dL_fits_172 : decode cL_fits 172 = .ok (.aload_n 0, 1) := by decide +kernel
theorem dL_fits_173 : decode cL_fits 173 = .ok (.aload_n 0, 1) := by decide +kernel
theorem dL_fits_174 : decode cL_fits 174 = .ok (.iload_n 2, 1) := by decide +kernel
theorem dL_fits_175 : decode cL_fits 175 = .ok (.invokevirtual 161, 3) := by decide +kernel
theorem dL_fits_178 : decode cL_fits 178 = .ok (.iconst 1, 1) := by decide +kernel
theorem dL_fits_179 : decode cL_fits 179 = .ok (.invokevirtual 44, 3) := by decide +kernel
theorem dL_fits_182 : decode cL_fits 182 = .ok (.aload_n 0, 1) := by decide +kernel
theorem dL_fits_183 : decode cL_fits 183 = .ok (.aload_n 0, 1) := by decide +kernel
theorem dL_fits_184 : decode cL_fits 184 = .ok (.iload_n 2, 1) := by decide +kernel
theorem dL_fits_185 : decode cL_fits 185 = .ok (.iconst 1, 1) := by decide +kernel
theorem dL_fits_186 : decode cL_fits 186 = .ok (.isub, 1) := by decide +kernel
theorem dL_fits_187 : decode cL_fits 187 = .ok (.invokevirtual 161, 3) := by decide +kernel
theorem dL_fits_190 : decode cL_fits 190 = .ok (.iconst 1, 1) := by decide +kernel
theorem dL_fits_191 : decode cL_fits 191 = .ok (.invokevirtual 44, 3) := by decide +kernel
theorem dL_fits_194 : decode cL_fits 194 = .ok (.if_icmp .le 5, 3) := by decide +kernel
theorem dL_fits_197 : decode cL_fits 197 = .ok (.iconst 0, 1) := by decide +kernel
theorem dL_fits_198 : decode cL_fits 198 = .ok (.ireturn, 1) := by decide +kernel
theorem dL_fits_199 : decode cL_fits 199 = .ok (.iinc 2 1, 3) := by decide +kernel
theorem dL_fits_202 : decode cL_fits 202 = .ok (.goto (-86), 3) := by decide +kernel
theorem dL_fits_205 : decode cL_fits 205 = .ok (.aload_n 0, 1) := by decide +kernel
theorem dL_fits_206 : decode cL_fits 206 = .ok (.bipush 7, 2) := by decide +kernel
theorem dL_fits_208 : decode cL_fits 208 = .ok (.invokevirtual 31, 3) := by decide +kernel
theorem dL_fits_211 : decode cL_fits 211 = .ok (.aload_n 0, 1) := by decide +kernel
theorem dL_fits_212 : decode cL_fits 212 = .ok (.iconst 0, 1) := by decide +kernel
theorem dL_fits_213 : decode cL_fits 213 = .ok (.invokevirtual 31, 3) := by decide +kernel
theorem dL_fits_216 : decode cL_fits 216 = .ok (.aload_n 0, 1) := by decide +kernel
theorem dL_fits_217 : decode cL_fits 217 = .ok (.bipush 6, 2) := by decide +kernel
theorem dL_fits_219 : decode cL_fits 219 = .ok (.invokevirtual 31, 3) := by decide +kernel
theorem dL_fits_222 : decode cL_fits 222 = .ok (.iadd, 1) := by decide +kernel
theorem dL_fits_223 : decode cL_fits 223 = .ok (.aload_n 0, 1) := by decide +kernel
theorem dL_fits_224 : decode cL_fits 224 = .ok (.bipush 8, 2) := by decide +kernel
theorem dL_fits_226 : decode cL_fits 226 = .ok (.invokevirtual 31, 3) := by decide +kernel
theorem dL_fits_229 : decode cL_fits 229 = .ok (.iadd, 1) := by decide +kernel
theorem dL_fits_230 : decode cL_fits 230 = .ok (.if_icmp .ne 19, 3) := by decide +kernel
theorem dL_fits_233 : decode cL_fits 233 = .ok (.aload_n 0, 1) := by decide +kernel
theorem dL_fits_234 : decode cL_fits 234 = .ok (.invokevirtual 164, 3) := by decide +kernel
theorem dL_fits_237 : decode cL_fits 237 = .ok (.aload_n 0, 1) := by decide +kernel
theorem dL_fits_238 : decode cL_fits 238 = .ok (.invokevirtual 47, 3) := by decide +kernel
theorem dL_fits_241 : decode cL_fits 241 = .ok (.f2i, 1) := by decide +kernel
theorem dL_fits_242 : decode cL_fits 242 = .ok (.if_icmp .ne 7, 3) := by decide +kernel
theorem dL_fits_245 : decode cL_fits 245 = .ok (.iconst 1, 1) := by decide +kernel
theorem dL_fits_246 : decode cL_fits 246 = .ok (.goto 4, 3) := by decide +kernel
theorem dL_fits_249 : decode cL_fits 249 = .ok (.iconst 0, 1) := by decide +kernel
theorem dL_fits_250 : decode cL_fits 250 = .ok (.ireturn, 1) := by decide +kernel
theorem dL_law_0 : decode cL_law 0 = .ok (.new 19, 3) := by decide +kernel
theorem dL_law_3 : decode cL_law 3 = .ok (.dup, 1) := by decide +kernel
theorem dL_law_4 : decode cL_law 4 = .ok (.invokespecial 167, 3) := by decide +kernel
theorem dL_law_7 : decode cL_law 7 = .ok (.astore_n 1, 1) := by decide +kernel
theorem dL_law_8 : decode cL_law 8 = .ok (.iconst 0, 1) := by decide +kernel
theorem dL_law_9 : decode cL_law 9 = .ok (.istore_n 2, 1) := by decide +kernel
theorem dL_law_10 : decode cL_law 10 = .ok (.iload_n 2, 1) := by decide +kernel
theorem dL_law_11 : decode cL_law 11 = .ok (.bipush 6, 2) := by decide +kernel
theorem dL_law_13 : decode cL_law 13 = .ok (.if_icmp .ge 64, 3) := by decide +kernel
theorem dL_law_16 : decode cL_law 16 = .ok (.aload_n 1, 1) := by decide +kernel
theorem dL_law_17 : decode cL_law 17 = .ok (.aload_n 0, 1) := by decide +kernel
theorem dL_law_18 : decode cL_law 18 = .ok (.iconst 0, 1) := by decide +kernel
theorem dL_law_19 : decode cL_law 19 = .ok (.invokestatic 168, 3) := by decide +kernel
theorem dL_law_22 : decode cL_law 22 = .ok (.iload_n 2, 1) := by decide +kernel
theorem dL_law_23 : decode cL_law 23 = .ok (.ishr, 1) := by decide +kernel
theorem dL_law_24 : decode cL_law 24 = .ok (.iconst 2, 1) := by decide +kernel
theorem dL_law_25 : decode cL_law 25 = .ok (.invokestatic 58, 3) := by decide +kernel
theorem dL_law_28 : decode cL_law 28 = .ok (.iconst 2, 1) := by decide +kernel
theorem dL_law_29 : decode cL_law 29 = .ok (.iconst 3, 1) := by decide +kernel
theorem dL_law_30 : decode cL_law 30 = .ok (.iload_n 2, 1) := by decide +kernel
theorem dL_law_31 : decode cL_law 31 = .ok (.imul, 1) := by decide +kernel
theorem dL_law_32 : decode cL_law 32 = .ok (.iadd, 1) := by decide +kernel
theorem dL_law_33 : decode cL_law 33 = .ok (.aload_n 0, 1) := by decide +kernel
theorem dL_law_34 : decode cL_law 34 = .ok (.iconst 0, 1) := by decide +kernel
theorem dL_law_35 : decode cL_law 35 = .ok (.invokestatic 168, 3) := by decide +kernel
theorem dL_law_38 : decode cL_law 38 = .ok (.iconst 2, 1) := by decide +kernel
theorem dL_law_39 : decode cL_law 39 = .ok (.iload_n 2, 1) := by decide +kernel
theorem dL_law_40 : decode cL_law 40 = .ok (.imul, 1) := by decide +kernel
theorem dL_law_41 : decode cL_law 41 = .ok (.ishr, 1) := by decide +kernel
theorem dL_law_42 : decode cL_law 42 = .ok (.iconst 3, 1) := by decide +kernel
theorem dL_law_43 : decode cL_law 43 = .ok (.invokestatic 58, 3) := by decide +kernel
theorem dL_law_46 : decode cL_law 46 = .ok (.iadd, 1) := by decide +kernel
theorem dL_law_47 : decode cL_law 47 = .ok (.bipush 8, 2) := by decide +kernel
theorem dL_law_49 : decode cL_law 49 = .ok (.iload_n 2, 1) := by decide +kernel
theorem dL_law_50 : decode cL_law 50 = .ok (.imul, 1) := by decide +kernel
theorem dL_law_51 : decode cL_law 51 = .ok (.iconst 1, 1) := by decide +kernel
theorem dL_law_52 : decode cL_law 52 = .ok (.aload_n 0, 1) := by decide +kernel
theorem dL_law_53 : decode cL_law 53 = .ok (.iconst 0, 1) := by decide +kernel
theorem dL_law_54 : decode cL_law 54 = .ok (.invokestatic 168, 3) := by decide +kernel
theorem dL_law_57 : decode cL_law 57 = .ok (.iconst 3, 1) := by decide +kernel
theorem dL_law_58 : decode cL_law 58 = .ok (.iload_n 2, 1) := by decide +kernel
theorem dL_law_59 : decode cL_law 59 = .ok (.imul, 1) := by decide +kernel
theorem dL_law_60 : decode cL_law 60 = .ok (.ishr, 1) := by decide +kernel
theorem dL_law_61 : decode cL_law 61 = .ok (.bipush 9, 2) := by decide +kernel
theorem dL_law_63 : decode cL_law 63 = .ok (.invokestatic 58, 3) := by decide +kernel
theorem dL_law_66 : decode cL_law 66 = .ok (.iadd, 1) := by decide +kernel
theorem dL_law_67 : decode cL_law 67 = .ok (.invokevirtual 68, 3) := by decide +kernel
theorem dL_law_70 : decode cL_law 70 = .ok (.pop, 1) := by decide +kernel
theorem dL_law_71 : decode cL_law 71 = .ok (.iinc 2 1, 3) := by decide +kernel
theorem dL_law_74 : decode cL_law 74 = .ok (.goto (-64), 3) := by decide +kernel
theorem dL_law_77 : decode cL_law 77 = .ok (.iconst 1, 1) := by decide +kernel
theorem dL_law_78 : decode cL_law 78 = .ok (.istore_n 2, 1) := by decide +kernel
theorem dL_law_79 : decode cL_law 79 = .ok (.iload_n 2, 1) := by decide +kernel
theorem dL_law_80 : decode cL_law 80 = .ok (.bipush 24, 2) := by decide +kernel
theorem dL_law_82 : decode cL_law 82 = .ok (.if_icmp .ge 191, 3) := by decide +kernel
theorem dL_law_85 : decode cL_law 85 = .ok (.aload_n 0, 1) := by decide +kernel
theorem dL_law_86 : decode cL_law 86 = .ok (.iload_n 2, 1) := by decide +kernel
theorem dL_law_87 : decode cL_law 87 = .ok (.invokestatic 168, 3) := by decide +kernel
theorem dL_law_90 : decode cL_law 90 = .ok (.istore_n 3, 1) := by decide +kernel
theorem dL_law_91 : decode cL_law 91 = .ok (.aload_n 1, 1) := by decide +kernel
theorem dL_law_92 : decode cL_law 92 = .ok (.invokestatic 101, 3) := by decide +kernel
theorem dL_law_95 : decode cL_law 95 = .ok (.lstore 4, 2) := by decide +kernel
theorem dL_law_97 : decode cL_law 97 = .ok (.aload_n 1, 1) := by decide +kernel
theorem dL_law_98 : decode cL_law 98 = .ok (.bipush 13, 2) := by decide +kernel
theorem dL_law_100 : decode cL_law 100 = .ok (.invokevirtual 31, 3) := by decide +kernel
theorem dL_law_103 : decode cL_law 103 = .ok (.istore 6, 2) := by decide +kernel
theorem dL_law_105 : decode cL_law 105 = .ok (.aload_n 1, 1) := by decide +kernel
theorem dL_law_106 : decode cL_law 106 = .ok (.iload_n 3, 1) := by decide +kernel
theorem dL_law_107 : decode cL_law 107 = .ok (.invokestatic 172, 3) := by decide +kernel
theorem dL_law_110 : decode cL_law 110 = .ok (.istore 7, 2) := by decide +kernel
theorem dL_law_112 : decode cL_law 112 = .ok (.iload 7, 2) := by decide +kernel
theorem dL_law_114 : decode cL_law 114 = .ok (.ifCond .ge 13, 3) := by decide +kernel
theorem dL_law_117 : decode cL_law 117 = .ok (.aload_n 1, 1) := by decide +kernel
theorem dL_law_118 : decode cL_law 118 = .ok (.invokestatic 101, 3) := by decide +kernel
theorem dL_law_121 : decode cL_law 121 = .ok (.lload 4, 2) := by decide +kernel
theorem dL_law_123 : decode cL_law 123 = .ok (.lcmp, 1) := by decide +kernel
theorem dL_law_124 : decode cL_law 124 = .ok (.ifCond .ne 12, 3) := by decide +kernel
theorem dL_law_127 : decode cL_law 127 = .ok (.aload_n 1, 1) := by decide +kernel
theorem dL_law_128 : decode cL_law 128 = .ok (.bipush 12, 2) := by decide +kernel
theorem dL_law_130 : decode cL_law 130 = .ok (.invokevirtual 31, 3) := by decide +kernel
theorem dL_law_133 : decode cL_law 133 = .ok (.ifCond .eq 5, 3) := by decide +kernel
theorem dL_law_136 : decode cL_law 136 = .ok (.iconst 0, 1) := by decide +kernel
theorem dL_law_137 : decode cL_law 137 = .ok (.ireturn, 1) := by decide +kernel
theorem dL_law_138 : decode cL_law 138 = .ok (.iload 7, 2) := by decide +kernel
theorem dL_law_140 : decode cL_law 140 = .ok (.ifCond .lt 41, 3) := by decide +kernel
theorem dL_law_143 : decode cL_law 143 = .ok (.iload_n 2, 1) := by decide +kernel
theorem dL_law_144 : decode cL_law 144 = .ok (.iconst 3, 1) := by decide +kernel
theorem dL_law_145 : decode cL_law 145 = .ok (.irem, 1) := by decide +kernel
theorem dL_law_146 : decode cL_law 146 = .ok (.ifCond .ne 35, 3) := by decide +kernel
theorem dL_law_149 : decode cL_law 149 = .ok (.aload_n 1, 1) := by decide +kernel
theorem dL_law_150 : decode cL_law 150 = .ok (.invokevirtual 122, 3) := by decide +kernel
theorem dL_law_153 : decode cL_law 153 = .ok (.iload 6, 2) := by decide +kernel
theorem dL_law_155 : decode cL_law 155 = .ok (.bipush 7, 2) := by decide +kernel
theorem dL_law_157 : decode cL_law 157 = .ok (.invokestatic 135, 3) := by decide +kernel
theorem dL_law_160 : decode cL_law 160 = .ok (.if_icmp .ne 13, 3) := by decide +kernel
theorem dL_law_163 : decode cL_law 163 = .ok (.aload_n 1, 1) := by decide +kernel
theorem dL_law_164 : decode cL_law 164 = .ok (.invokestatic 101, 3) := by decide +kernel
theorem dL_law_167 : decode cL_law 167 = .ok (.lload 4, 2) := by decide +kernel
theorem dL_law_169 : decode cL_law 169 = .ok (.lcmp, 1) := by decide +kernel
theorem dL_law_170 : decode cL_law 170 = .ok (.ifCond .eq 5, 3) := by decide +kernel
theorem dL_law_173 : decode cL_law 173 = .ok (.iconst 0, 1) := by decide +kernel
theorem dL_law_174 : decode cL_law 174 = .ok (.ireturn, 1) := by decide +kernel
theorem dL_law_175 : decode cL_law 175 = .ok (.aload_n 1, 1) := by decide +kernel
theorem dL_law_176 : decode cL_law 176 = .ok (.iload_n 3, 1) := by decide +kernel
theorem dL_law_177 : decode cL_law 177 = .ok (.invokestatic 172, 3) := by decide +kernel
theorem dL_law_180 : decode cL_law 180 = .ok (.pop, 1) := by decide +kernel
theorem dL_law_181 : decode cL_law 181 = .ok (.iload_n 2, 1) := by decide +kernel
theorem dL_law_182 : decode cL_law 182 = .ok (.iconst 5, 1) := by decide +kernel
theorem dL_law_183 : decode cL_law 183 = .ok (.irem, 1) := by decide +kernel
theorem dL_law_184 : decode cL_law 184 = .ok (.ifCond .ne 64, 3) := by decide +kernel
theorem dL_law_187 : decode cL_law 187 = .ok (.aload_n 1, 1) := by decide +kernel
theorem dL_law_188 : decode cL_law 188 = .ok (.invokestatic 101, 3) := by decide +kernel
theorem dL_law_191 : decode cL_law 191 = .ok (.lstore 8, 2) := by decide +kernel
theorem dL_law_193 : decode cL_law 193 = .ok (.aload_n 1, 1) := by decide +kernel
theorem dL_law_194 : decode cL_law 194 = .ok (.invokevirtual 176, 3) := by decide +kernel
theorem dL_law_197 : decode cL_law 197 = .ok (.aload_n 1, 1) := by decide +kernel
theorem dL_law_198 : decode cL_law 198 = .ok (.iconst 0, 1) := by decide +kernel
theorem dL_law_199 : decode cL_law 199 = .ok (.invokevirtual 31, 3) := by decide +kernel
theorem dL_law_202 : decode cL_law 202 = .ok (.if_icmp .eq 5, 3) := by decide +kernel
theorem dL_law_205 : decode cL_law 205 = .ok (.iconst 0, 1) := by decide +kernel
theorem dL_law_206 : decode cL_law 206 = .ok (.ireturn, 1) := by decide +kernel
theorem dL_law_207 : decode cL_law 207 = .ok (.aload_n 1, 1) := by decide +kernel
theorem dL_law_208 : decode cL_law 208 = .ok (.iload_n 3, 1) := by decide +kernel
theorem dL_law_209 : decode cL_law 209 = .ok (.iconst 1, 1) := by decide +kernel
theorem dL_law_210 : decode cL_law 210 = .ok (.iadd, 1) := by decide +kernel
theorem dL_law_211 : decode cL_law 211 = .ok (.invokestatic 172, 3) := by decide +kernel
theorem dL_law_214 : decode cL_law 214 = .ok (.pop, 1) := by decide +kernel
theorem dL_law_215 : decode cL_law 215 = .ok (.aload_n 1, 1) := by decide +kernel
theorem dL_law_216 : decode cL_law 216 = .ok (.invokevirtual 179, 3) := by decide +kernel
theorem dL_law_219 : decode cL_law 219 = .ok (.aload_n 1, 1) := by decide +kernel
theorem dL_law_220 : decode cL_law 220 = .ok (.iconst 0, 1) := by decide +kernel
theorem dL_law_221 : decode cL_law 221 = .ok (.invokevirtual 31, 3) := by decide +kernel
theorem dL_law_224 : decode cL_law 224 = .ok (.if_icmp .ne 22, 3) := by decide +kernel
theorem dL_law_227 : decode cL_law 227 = .ok (.aload_n 1, 1) := by decide +kernel
theorem dL_law_228 : decode cL_law 228 = .ok (.invokestatic 101, 3) := by decide +kernel
theorem dL_law_231 : decode cL_law 231 = .ok (.lload 8, 2) := by decide +kernel
theorem dL_law_233 : decode cL_law 233 = .ok (.lcmp, 1) := by decide +kernel
theorem dL_law_234 : decode cL_law 234 = .ok (.ifCond .ne 12, 3) := by decide +kernel
theorem dL_law_237 : decode cL_law 237 = .ok (.aload_n 1, 1) := by decide +kernel
theorem dL_law_238 : decode cL_law 238 = .ok (.invokevirtual 122, 3) := by decide +kernel
theorem dL_law_241 : decode cL_law 241 = .ok (.bipush (-3), 2) := by decide +kernel
theorem dL_law_243 : decode cL_law 243 = .ok (.if_icmp .eq 5, 3) := by decide +kernel
theorem dL_law_246 : decode cL_law 246 = .ok (.iconst 0, 1) := by decide +kernel
theorem dL_law_247 : decode cL_law 247 = .ok (.ireturn, 1) := by decide +kernel
theorem dL_law_248 : decode cL_law 248 = .ok (.iload_n 2, 1) := by decide +kernel
theorem dL_law_249 : decode cL_law 249 = .ok (.iconst 3, 1) := by decide +kernel
theorem dL_law_250 : decode cL_law 250 = .ok (.irem, 1) := by decide +kernel
theorem dL_law_251 : decode cL_law 251 = .ok (.iconst 1, 1) := by decide +kernel
theorem dL_law_252 : decode cL_law 252 = .ok (.if_icmp .ne 15, 3) := by decide +kernel
theorem dL_law_255 : decode cL_law 255 = .ok (.aload_n 1, 1) := by decide +kernel
theorem dL_law_256 : decode cL_law 256 = .ok (.iload_n 3, 1) := by decide +kernel
theorem dL_law_257 : decode cL_law 257 = .ok (.iconst 3, 1) := by decide +kernel
theorem dL_law_258 : decode cL_law 258 = .ok (.ishr, 1) := by decide +kernel
theorem dL_law_259 : decode cL_law 259 = .ok (.invokestatic 182, 3) := by decide +kernel
theorem dL_law_262 : decode cL_law 262 = .ok (.ifCond .ne 5, 3) := by decide +kernel
theorem dL_law_265 : decode cL_law 265 = .ok (.iconst 0, 1) := by decide +kernel
theorem dL_law_266 : decode cL_law 266 = .ok (.ireturn, 1) := by decide +kernel
theorem dL_law_267 : decode cL_law 267 = .ok (.iinc 2 1, 3) := by decide +kernel
theorem dL_law_270 : decode cL_law 270 = .ok (.goto (-191), 3) := by decide +kernel
theorem dL_law_273 : decode cL_law 273 = .ok (.iconst 1, 1) := by decide +kernel
theorem dL_law_274 : decode cL_law 274 = .ok (.ireturn, 1) := by decide +kernel
