theorem dL_cell_0 : decode cL_cell 0 = .ok (.iload_n 1, 1) := by decide +kernel
theorem dL_cell_1 : decode cL_cell 1 = .ok (.aload_n 0, 1) := by decide +kernel
theorem dL_cell_2 : decode cL_cell 2 = .ok (.arraylength, 1) := by decide +kernel
theorem dL_cell_3 : decode cL_cell 3 = .ok (.if_icmp .ge 9, 3) := by decide +kernel
theorem dL_cell_6 : decode cL_cell 6 = .ok (.aload_n 0, 1) := by decide +kernel
theorem dL_cell_7 : decode cL_cell 7 = .ok (.iload_n 1, 1) := by decide +kernel
theorem dL_cell_8 : decode cL_cell 8 = .ok (.iaload, 1) := by decide +kernel
theorem dL_cell_9 : decode cL_cell 9 = .ok (.goto 12, 3) := by decide +kernel
theorem dL_cell_12 : decode cL_cell 12 = .ok (.ldc 7, 2) := by decide +kernel
theorem dL_cell_14 : decode cL_cell 14 = .ok (.iload_n 1, 1) := by decide +kernel
theorem dL_cell_15 : decode cL_cell 15 = .ok (.iconst 1, 1) := by decide +kernel
theorem dL_cell_16 : decode cL_cell 16 = .ok (.iadd, 1) := by decide +kernel
theorem dL_cell_17 : decode cL_cell 17 = .ok (.imul, 1) := by decide +kernel
theorem dL_cell_18 : decode cL_cell 18 = .ok (.ldc 8, 2) := by decide +kernel
theorem dL_cell_20 : decode cL_cell 20 = .ok (.iadd, 1) := by decide +kernel
theorem dL_cell_21 : decode cL_cell 21 = .ok (.ireturn, 1) := by decide +kernel
theorem dL_low_0 : decode cL_low 0 = .ok (.iload_n 0, 1) := by decide +kernel
theorem dL_low_1 : decode cL_low 1 = .ok (.ldc 9, 2) := by decide +kernel
theorem dL_low_3 : decode cL_low 3 = .ok (.iand, 1) := by decide +kernel
theorem dL_low_4 : decode cL_low 4 = .ok (.iload_n 1, 1) := by decide +kernel
theorem dL_low_5 : decode cL_low 5 = .ok (.irem, 1) := by decide +kernel
theorem dL_low_6 : decode cL_low 6 = .ok (.ireturn, 1) := by decide +kernel
theorem dL_telling_0 : decode cL_telling 0 = .ok (.iconst (-1), 1) := by decide +kernel
theorem dL_telling_1 : decode cL_telling 1 = .ok (.istore 5, 2) := by decide +kernel
theorem dL_telling_3 : decode cL_telling 3 = .ok (.iload_n 1, 1) := by decide +kernel
theorem dL_telling_4 : decode cL_telling 4 = .ok (.iconst 1, 1) := by decide +kernel
theorem dL_telling_5 : decode cL_telling 5 = .ok (.isub, 1) := by decide +kernel
theorem dL_telling_6 : decode cL_telling 6 = .ok (.istore 6, 2) := by decide +kernel
theorem dL_telling_8 : decode cL_telling 8 = .ok (.iload 6, 2) := by decide +kernel
theorem dL_telling_10 : decode cL_telling 10 = .ok (.ifCond .lt 72, 3) := by decide +kernel
theorem dL_telling_13 : decode cL_telling 13 = .ok (.aload_n 0, 1) := by decide +kernel
theorem dL_telling_14 : decode cL_telling 14 = .ok (.iconst 4, 1) := by decide +kernel
theorem dL_telling_15 : decode cL_telling 15 = .ok (.iload 6, 2) := by decide +kernel
theorem dL_telling_17 : decode cL_telling 17 = .ok (.imul, 1) := by decide +kernel
theorem dL_telling_18 : decode cL_telling 18 = .ok (.iaload, 1) := by decide +kernel
theorem dL_telling_19 : decode cL_telling 19 = .ok (.iload_n 2, 1) := by decide +kernel
theorem dL_telling_20 : decode cL_telling 20 = .ok (.if_icmp .ne 56, 3) := by decide +kernel
theorem dL_telling_23 : decode cL_telling 23 = .ok (.aload_n 0, 1) := by decide +kernel
theorem dL_telling_24 : decode cL_telling 24 = .ok (.iconst 4, 1) := by decide +kernel
theorem dL_telling_25 : decode cL_telling 25 = .ok (.iload 6, 2) := by decide +kernel
theorem dL_telling_27 : decode cL_telling 27 = .ok (.imul, 1) := by decide +kernel
theorem dL_telling_28 : decode cL_telling 28 = .ok (.iconst 1, 1) := by decide +kernel
theorem dL_telling_29 : decode cL_telling 29 = .ok (.iadd, 1) := by decide +kernel
theorem dL_telling_30 : decode cL_telling 30 = .ok (.iaload, 1) := by decide +kernel
theorem dL_telling_31 : decode cL_telling 31 = .ok (.iload_n 3, 1) := by decide +kernel
theorem dL_telling_32 : decode cL_telling 32 = .ok (.if_icmp .ne 44, 3) := by decide +kernel
theorem dL_telling_35 : decode cL_telling 35 = .ok (.aload_n 0, 1) := by decide +kernel
theorem dL_telling_36 : decode cL_telling 36 = .ok (.iconst 4, 1) := by decide +kernel
theorem dL_telling_37 : decode cL_telling 37 = .ok (.iload 6, 2) := by decide +kernel
theorem dL_telling_39 : decode cL_telling 39 = .ok (.imul, 1) := by decide +kernel
theorem dL_telling_40 : decode cL_telling 40 = .ok (.iconst 3, 1) := by decide +kernel
theorem dL_telling_41 : decode cL_telling 41 = .ok (.iadd, 1) := by decide +kernel
theorem dL_telling_42 : decode cL_telling 42 = .ok (.iaload, 1) := by decide +kernel
theorem dL_telling_43 : decode cL_telling 43 = .ok (.iload 4, 2) := by decide +kernel
theorem dL_telling_45 : decode cL_telling 45 = .ok (.if_icmp .gt 31, 3) := by decide +kernel
theorem dL_telling_48 : decode cL_telling 48 = .ok (.iload 5, 2) := by decide +kernel
theorem dL_telling_50 : decode cL_telling 50 = .ok (.ifCond .lt 22, 3) := by decide +kernel
theorem dL_telling_53 : decode cL_telling 53 = .ok (.aload_n 0, 1) := by decide +kernel
theorem dL_telling_54 : decode cL_telling 54 = .ok (.iconst 4, 1) := by decide +kernel
theorem dL_telling_55 : decode cL_telling 55 = .ok (.iload 6, 2) := by decide +kernel
theorem dL_telling_57 : decode cL_telling 57 = .ok (.imul, 1) := by decide +kernel
theorem dL_telling_58 : decode cL_telling 58 = .ok (.iconst 3, 1) := by decide +kernel
theorem dL_telling_59 : decode cL_telling 59 = .ok (.iadd, 1) := by decide +kernel
theorem dL_telling_60 : decode cL_telling 60 = .ok (.iaload, 1) := by decide +kernel
theorem dL_telling_61 : decode cL_telling 61 = .ok (.aload_n 0, 1) := by decide +kernel
theorem dL_telling_62 : decode cL_telling 62 = .ok (.iconst 4, 1) := by decide +kernel
theorem dL_telling_63 : decode cL_telling 63 = .ok (.iload 5, 2) := by decide +kernel
theorem dL_telling_65 : decode cL_telling 65 = .ok (.imul, 1) := by decide +kernel
theorem dL_telling_66 : decode cL_telling 66 = .ok (.iconst 3, 1) := by decide +kernel
theorem dL_telling_67 : decode cL_telling 67 = .ok (.iadd, 1) := by decide +kernel
theorem dL_telling_68 : decode cL_telling 68 = .ok (.iaload, 1) := by decide +kernel
theorem dL_telling_69 : decode cL_telling 69 = .ok (.if_icmp .le 7, 3) := by decide +kernel
theorem dL_telling_72 : decode cL_telling 72 = .ok (.iload 6, 2) := by decide +kernel
theorem dL_telling_74 : decode cL_telling 74 = .ok (.istore 5, 2) := by decide +kernel
theorem dL_telling_76 : decode cL_telling 76 = .ok (.iinc 6 (-1), 3) := by decide +kernel
theorem dL_telling_79 : decode cL_telling 79 = .ok (.goto (-71), 3) := by decide +kernel
theorem dL_telling_82 : decode cL_telling 82 = .ok (.iload 5, 2) := by decide +kernel
theorem dL_telling_84 : decode cL_telling 84 = .ok (.ireturn, 1) := by decide +kernel
theorem dL_tax_0 : decode cL_tax 0 = .ok (.iconst 0, 1) := by decide +kernel
theorem dL_tax_1 : decode cL_tax 1 = .ok (.istore 5, 2) := by decide +kernel
theorem dL_tax_3 : decode cL_tax 3 = .ok (.iconst 0, 1) := by decide +kernel
theorem dL_tax_4 : decode cL_tax 4 = .ok (.istore 6, 2) := by decide +kernel
theorem dL_tax_6 : decode cL_tax 6 = .ok (.iconst 4, 1) := by decide +kernel
theorem dL_tax_7 : decode cL_tax 7 = .ok (.newarray .int, 2) := by decide +kernel
theorem dL_tax_9 : decode cL_tax 9 = .ok (.astore 7, 2) := by decide +kernel
theorem dL_tax_11 : decode cL_tax 11 = .ok (.iconst 0, 1) := by decide +kernel
theorem dL_tax_12 : decode cL_tax 12 = .ok (.istore 8, 2) := by decide +kernel
theorem dL_tax_14 : decode cL_tax 14 = .ok (.iload 8, 2) := by decide +kernel
theorem dL_tax_16 : decode cL_tax 16 = .ok (.aload_n 1, 1) := by decide +kernel
theorem dL_tax_17 : decode cL_tax 17 = .ok (.bipush 7, 2) := by decide +kernel
theorem dL_tax_19 : decode cL_tax 19 = .ok (.iload_n 3, 1) := by decide +kernel
theorem dL_tax_20 : decode cL_tax 20 = .ok (.imul, 1) := by decide +kernel
theorem dL_tax_21 : decode cL_tax 21 = .ok (.iconst 2, 1) := by decide +kernel
theorem dL_tax_22 : decode cL_tax 22 = .ok (.iadd, 1) := by decide +kernel
theorem dL_tax_23 : decode cL_tax 23 = .ok (.iaload, 1) := by decide +kernel
theorem dL_tax_24 : decode cL_tax 24 = .ok (.if_icmp .ge 101, 3) := by decide +kernel
theorem dL_tax_27 : decode cL_tax 27 = .ok (.aload_n 2, 1) := by decide +kernel
theorem dL_tax_28 : decode cL_tax 28 = .ok (.bipush 9, 2) := by decide +kernel
theorem dL_tax_30 : decode cL_tax 30 = .ok (.iload_n 3, 1) := by decide +kernel
theorem dL_tax_31 : decode cL_tax 31 = .ok (.imul, 1) := by decide +kernel
theorem dL_tax_32 : decode cL_tax 32 = .ok (.iconst 3, 1) := by decide +kernel
theorem dL_tax_33 : decode cL_tax 33 = .ok (.iload 8, 2) := by decide +kernel
theorem dL_tax_35 : decode cL_tax 35 = .ok (.imul, 1) := by decide +kernel
theorem dL_tax_36 : decode cL_tax 36 = .ok (.iadd, 1) := by decide +kernel
theorem dL_tax_37 : decode cL_tax 37 = .ok (.iconst 1, 1) := by decide +kernel
theorem dL_tax_38 : decode cL_tax 38 = .ok (.iadd, 1) := by decide +kernel
theorem dL_tax_39 : decode cL_tax 39 = .ok (.iaload, 1) := by decide +kernel
theorem dL_tax_40 : decode cL_tax 40 = .ok (.aload_n 2, 1) := by decide +kernel
theorem dL_tax_41 : decode cL_tax 41 = .ok (.bipush 9, 2) := by decide +kernel
theorem dL_tax_43 : decode cL_tax 43 = .ok (.iload_n 3, 1) := by decide +kernel
theorem dL_tax_44 : decode cL_tax 44 = .ok (.imul, 1) := by decide +kernel
theorem dL_tax_45 : decode cL_tax 45 = .ok (.iconst 3, 1) := by decide +kernel
theorem dL_tax_46 : decode cL_tax 46 = .ok (.iload 8, 2) := by decide +kernel
theorem dL_tax_48 : decode cL_tax 48 = .ok (.imul, 1) := by decide +kernel
theorem dL_tax_49 : decode cL_tax 49 = .ok (.iadd, 1) := by decide +kernel
theorem dL_tax_50 : decode cL_tax 50 = .ok (.iconst 2, 1) := by decide +kernel
theorem dL_tax_51 : decode cL_tax 51 = .ok (.iadd, 1) := by decide +kernel
theorem dL_tax_52 : decode cL_tax 52 = .ok (.iaload, 1) := by decide +kernel
theorem dL_tax_53 : decode cL_tax 53 = .ok (.imul, 1) := by decide +kernel
theorem dL_tax_54 : decode cL_tax 54 = .ok (.aload 4, 2) := by decide +kernel
theorem dL_tax_56 : decode cL_tax 56 = .ok (.iload 8, 2) := by decide +kernel
theorem dL_tax_58 : decode cL_tax 58 = .ok (.iaload, 1) := by decide +kernel
theorem dL_tax_59 : decode cL_tax 59 = .ok (.ifCond .ge 7, 3) := by decide +kernel
theorem dL_tax_62 : decode cL_tax 62 = .ok (.iconst 0, 1) := by decide +kernel
theorem dL_tax_63 : decode cL_tax 63 = .ok (.goto 14, 3) := by decide +kernel
theorem dL_tax_66 : decode cL_tax 66 = .ok (.aload_n 0, 1) := by decide +kernel
theorem dL_tax_67 : decode cL_tax 67 = .ok (.iconst 4, 1) := by decide +kernel
theorem dL_tax_68 : decode cL_tax 68 = .ok (.aload 4, 2) := by decide +kernel
theorem dL_tax_70 : decode cL_tax 70 = .ok (.iload 8, 2) := by decide +kernel
theorem dL_tax_72 : decode cL_tax 72 = .ok (.iaload, 1) := by decide +kernel
theorem dL_tax_73 : decode cL_tax 73 = .ok (.imul, 1) := by decide +kernel
theorem dL_tax_74 : decode cL_tax 74 = .ok (.iconst 2, 1) := by decide +kernel
theorem dL_tax_75 : decode cL_tax 75 = .ok (.iadd, 1) := by decide +kernel
theorem dL_tax_76 : decode cL_tax 76 = .ok (.iaload, 1) := by decide +kernel
theorem dL_tax_77 : decode cL_tax 77 = .ok (.imul, 1) := by decide +kernel
theorem dL_tax_78 : decode cL_tax 78 = .ok (.istore 9, 2) := by decide +kernel
theorem dL_tax_80 : decode cL_tax 80 = .ok (.iload 5, 2) := by decide +kernel
theorem dL_tax_82 : decode cL_tax 82 = .ok (.iload 9, 2) := by decide +kernel
theorem dL_tax_84 : decode cL_tax 84 = .ok (.bipush 50, 2) := by decide +kernel
theorem dL_tax_86 : decode cL_tax 86 = .ok (.iadd, 1) := by decide +kernel
theorem dL_tax_87 : decode cL_tax 87 = .ok (.bipush 100, 2) := by decide +kernel
theorem dL_tax_89 : decode cL_tax 89 = .ok (.idiv, 1) := by decide +kernel
theorem dL_tax_90 : decode cL_tax 90 = .ok (.iadd, 1) := by decide +kernel
theorem dL_tax_91 : decode cL_tax 91 = .ok (.istore 5, 2) := by decide +kernel
theorem dL_tax_93 : decode cL_tax 93 = .ok (.iload 6, 2) := by decide +kernel
theorem dL_tax_95 : decode cL_tax 95 = .ok (.iload 9, 2) := by decide +kernel
theorem dL_tax_97 : decode cL_tax 97 = .ok (.iadd, 1) := by decide +kernel
theorem dL_tax_98 : decode cL_tax 98 = .ok (.istore 6, 2) := by decide +kernel
theorem dL_tax_100 : decode cL_tax 100 = .ok (.aload 7, 2) := by decide +kernel
theorem dL_tax_102 : decode cL_tax 102 = .ok (.aload_n 2, 1) := by decide +kernel
theorem dL_tax_103 : decode cL_tax 103 = .ok (.bipush 9, 2) := by decide +kernel
theorem dL_tax_105 : decode cL_tax 105 = .ok (.iload_n 3, 1) := by decide +kernel
theorem dL_tax_106 : decode cL_tax 106 = .ok (.imul, 1) := by decide +kernel
theorem dL_tax_107 : decode cL_tax 107 = .ok (.iconst 3, 1) := by decide +kernel
theorem dL_tax_108 : decode cL_tax 108 = .ok (.iload 8, 2) := by decide +kernel
theorem dL_tax_110 : decode cL_tax 110 = .ok (.imul, 1) := by decide +kernel
theorem dL_tax_111 : decode cL_tax 111 = .ok (.iadd, 1) := by decide +kernel
theorem dL_tax_112 : decode cL_tax 112 = .ok (.iaload, 1) := by decide +kernel
theorem dL_tax_113 : decode cL_tax 113 = .ok (.dup2, 1) := by decide +kernel
theorem dL_tax_114 : decode cL_tax 114 = .ok (.iaload, 1) := by decide +kernel
theorem dL_tax_115 : decode cL_tax 115 = .ok (.iload 9, 2) := by decide +kernel
theorem dL_tax_117 : decode cL_tax 117 = .ok (.iadd, 1) := by decide +kernel
theorem dL_tax_118 : decode cL_tax 118 = .ok (.iastore, 1) := by decide +kernel
theorem dL_tax_119 : decode cL_tax 119 = .ok (.iinc 8 1, 3) := by decide +kernel
theorem dL_tax_122 : decode cL_tax 122 = .ok (.goto (-108), 3) := by decide +kernel
theorem dL_tax_125 : decode cL_tax 125 = .ok (.aload_n 1, 1) := by decide +kernel
theorem dL_tax_126 : decode cL_tax 126 = .ok (.bipush 7, 2) := by decide +kernel
theorem dL_tax_128 : decode cL_tax 128 = .ok (.iload_n 3, 1) := by decide +kernel
theorem dL_tax_129 : decode cL_tax 129 = .ok (.imul, 1) := by decide +kernel
theorem dL_tax_130 : decode cL_tax 130 = .ok (.iconst 4, 1) := by decide +kernel
theorem dL_tax_131 : decode cL_tax 131 = .ok (.iadd, 1) := by decide +kernel
theorem dL_tax_132 : decode cL_tax 132 = .ok (.iaload, 1) := by decide +kernel
theorem dL_tax_133 : decode cL_tax 133 = .ok (.ifCond .ne 6, 3) := by decide +kernel
theorem dL_tax_136 : decode cL_tax 136 = .ok (.iload 5, 2) := by decide +kernel
theorem dL_tax_138 : decode cL_tax 138 = .ok (.ireturn, 1) := by decide +kernel
theorem dL_tax_139 : decode cL_tax 139 = .ok (.aload_n 1, 1) := by decide +kernel
theorem dL_tax_140 : decode cL_tax 140 = .ok (.bipush 7, 2) := by decide +kernel
theorem dL_tax_142 : decode cL_tax 142 = .ok (.iload_n 3, 1) := by decide +kernel
theorem dL_tax_143 : decode cL_tax 143 = .ok (.imul, 1) := by decide +kernel
theorem dL_tax_144 : decode cL_tax 144 = .ok (.iconst 4, 1) := by decide +kernel
theorem dL_tax_145 : decode cL_tax 145 = .ok (.iadd, 1) := by decide +kernel
theorem dL_tax_146 : decode cL_tax 146 = .ok (.iaload, 1) := by decide +kernel
theorem dL_tax_147 : decode cL_tax 147 = .ok (.iconst 2, 1) := by decide +kernel
theorem dL_tax_148 : decode cL_tax 148 = .ok (.if_icmp .ne 12, 3) := by decide +kernel
theorem dL_tax_151 : decode cL_tax 151 = .ok (.iload 6, 2) := by decide +kernel
theorem dL_tax_153 : decode cL_tax 153 = .ok (.bipush 50, 2) := by decide +kernel
theorem dL_tax_155 : decode cL_tax 155 = .ok (.iadd, 1) := by decide +kernel
theorem dL_tax_156 : decode cL_tax 156 = .ok (.bipush 100, 2) := by decide +kernel
theorem dL_tax_158 : decode cL_tax 158 = .ok (.idiv, 1) := by decide +kernel
theorem dL_tax_159 : decode cL_tax 159 = .ok (.ireturn, 1) := by decide +kernel
theorem dL_tax_160 : decode cL_tax 160 = .ok (.iconst 0, 1) := by decide +kernel
theorem dL_tax_161 : decode cL_tax 161 = .ok (.istore 8, 2) := by decide +kernel
theorem dL_tax_163 : decode cL_tax 163 = .ok (.iconst 0, 1) := by decide +kernel
theorem dL_tax_164 : decode cL_tax 164 = .ok (.istore 9, 2) := by decide +kernel
theorem dL_tax_166 : decode cL_tax 166 = .ok (.iload 9, 2) := by decide +kernel
theorem dL_tax_168 : decode cL_tax 168 = .ok (.iconst 4, 1) := by decide +kernel
theorem dL_tax_169 : decode cL_tax 169 = .ok (.if_icmp .ge 25, 3) := by decide +kernel
theorem dL_tax_172 : decode cL_tax 172 = .ok (.iload 8, 2) := by decide +kernel
theorem dL_tax_174 : decode cL_tax 174 = .ok (.aload 7, 2) := by decide +kernel
theorem dL_tax_176 : decode cL_tax 176 = .ok (.iload 9, 2) := by decide +kernel
theorem dL_tax_178 : decode cL_tax 178 = .ok (.iaload, 1) := by decide +kernel
theorem dL_tax_179 : decode cL_tax 179 = .ok (.bipush 50, 2) := by decide +kernel
theorem dL_tax_181 : decode cL_tax 181 = .ok (.iadd, 1) := by decide +kernel
theorem dL_tax_182 : decode cL_tax 182 = .ok (.bipush 100, 2) := by decide +kernel
theorem dL_tax_184 : decode cL_tax 184 = .ok (.idiv, 1) := by decide +kernel
theorem dL_tax_185 : decode cL_tax 185 = .ok (.iadd, 1) := by decide +kernel
theorem dL_tax_186 : decode cL_tax 186 = .ok (.istore 8, 2) := by decide +kernel
theorem dL_tax_188 : decode cL_tax 188 = .ok (.iinc 9 1, 3) := by decide +kernel
theorem dL_tax_191 : decode cL_tax 191 = .ok (.goto (-25), 3) := by decide +kernel
theorem dL_tax_194 : decode cL_tax 194 = .ok (.iload 8, 2) := by decide +kernel
theorem dL_tax_196 : decode cL_tax 196 = .ok (.ireturn, 1) := by decide +kernel
theorem dL_now_0 : decode cL_now 0 = .ok (.iconst 4, 1) := by decide +kernel
theorem dL_now_1 : decode cL_now 1 = .ok (.newarray .int, 2) := by decide +kernel
theorem dL_now_3 : decode cL_now 3 = .ok (.astore 5, 2) := by decide +kernel
theorem dL_now_5 : decode cL_now 5 = .ok (.iconst 0, 1) := by decide +kernel
theorem dL_now_6 : decode cL_now 6 = .ok (.istore 6, 2) := by decide +kernel
theorem dL_now_8 : decode cL_now 8 = .ok (.iload 6, 2) := by decide +kernel
theorem dL_now_10 : decode cL_now 10 = .ok (.aload_n 2, 1) := by decide +kernel
theorem dL_now_11 : decode cL_now 11 = .ok (.bipush 7, 2) := by decide +kernel
theorem dL_now_13 : decode cL_now 13 = .ok (.iload 4, 2) := by decide +kernel
theorem dL_now_15 : decode cL_now 15 = .ok (.imul, 1) := by decide +kernel
theorem dL_now_16 : decode cL_now 16 = .ok (.iconst 2, 1) := by decide +kernel
theorem dL_now_17 : decode cL_now 17 = .ok (.iadd, 1) := by decide +kernel
theorem dL_now_18 : decode cL_now 18 = .ok (.iaload, 1) := by decide +kernel
theorem dL_now_19 : decode cL_now 19 = .ok (.if_icmp .ge 49, 3) := by decide +kernel
theorem dL_now_22 : decode cL_now 22 = .ok (.aload 5, 2) := by decide +kernel
theorem dL_now_24 : decode cL_now 24 = .ok (.iload 6, 2) := by decide +kernel
theorem dL_now_26 : decode cL_now 26 = .ok (.aload_n 0, 1) := by decide +kernel
theorem dL_now_27 : decode cL_now 27 = .ok (.iload_n 1, 1) := by decide +kernel
theorem dL_now_28 : decode cL_now 28 = .ok (.aload_n 2, 1) := by decide +kernel
theorem dL_now_29 : decode cL_now 29 = .ok (.bipush 7, 2) := by decide +kernel
theorem dL_now_31 : decode cL_now 31 = .ok (.iload 4, 2) := by decide +kernel
theorem dL_now_33 : decode cL_now 33 = .ok (.imul, 1) := by decide +kernel
theorem dL_now_34 : decode cL_now 34 = .ok (.iconst 3, 1) := by decide +kernel
theorem dL_now_35 : decode cL_now 35 = .ok (.iadd, 1) := by decide +kernel
theorem dL_now_36 : decode cL_now 36 = .ok (.iaload, 1) := by decide +kernel
theorem dL_now_37 : decode cL_now 37 = .ok (.aload_n 3, 1) := by decide +kernel
theorem dL_now_38 : decode cL_now 38 = .ok (.bipush 9, 2) := by decide +kernel
theorem dL_now_40 : decode cL_now 40 = .ok (.iload 4, 2) := by decide +kernel
theorem dL_now_42 : decode cL_now 42 = .ok (.imul, 1) := by decide +kernel
theorem dL_now_43 : decode cL_now 43 = .ok (.iconst 3, 1) := by decide +kernel
theorem dL_now_44 : decode cL_now 44 = .ok (.iload 6, 2) := by decide +kernel
theorem dL_now_46 : decode cL_now 46 = .ok (.imul, 1) := by decide +kernel
theorem dL_now_47 : decode cL_now 47 = .ok (.iadd, 1) := by decide +kernel
theorem dL_now_48 : decode cL_now 48 = .ok (.iaload, 1) := by decide +kernel
theorem dL_now_49 : decode cL_now 49 = .ok (.aload_n 2, 1) := by decide +kernel
theorem dL_now_50 : decode cL_now 50 = .ok (.bipush 7, 2) := by decide +kernel
theorem dL_now_52 : decode cL_now 52 = .ok (.iload 4, 2) := by decide +kernel
theorem dL_now_54 : decode cL_now 54 = .ok (.imul, 1) := by decide +kernel
theorem dL_now_55 : decode cL_now 55 = .ok (.iconst 1, 1) := by decide +kernel
theorem dL_now_56 : decode cL_now 56 = .ok (.iadd, 1) := by decide +kernel
theorem dL_now_57 : decode cL_now 57 = .ok (.iaload, 1) := by decide +kernel
theorem dL_now_58 : decode cL_now 58 = .ok (.invokestatic 10, 3) := by decide +kernel
theorem dL_now_61 : decode cL_now 61 = .ok (.iastore, 1) := by decide +kernel
theorem dL_now_62 : decode cL_now 62 = .ok (.iinc 6 1, 3) := by decide +kernel
theorem dL_now_65 : decode cL_now 65 = .ok (.goto (-57), 3) := by decide +kernel
theorem dL_now_68 : decode cL_now 68 = .ok (.aload_n 0, 1) := by decide +kernel
theorem dL_now_69 : decode cL_now 69 = .ok (.aload_n 2, 1) := by decide +kernel
theorem dL_now_70 : decode cL_now 70 = .ok (.aload_n 3, 1) := by decide +kernel
theorem dL_now_71 : decode cL_now 71 = .ok (.iload 4, 2) := by decide +kernel
theorem dL_now_73 : decode cL_now 73 = .ok (.aload 5, 2) := by decide +kernel
theorem dL_now_75 : decode cL_now 75 = .ok (.invokestatic 16, 3) := by decide +kernel
theorem dL_now_78 : decode cL_now 78 = .ok (.ireturn, 1) := by decide +kernel
theorem dL_types_0 : decode cL_types 0 = .ok (.aload_n 0, 1) := by decide +kernel
theorem dL_types_1 : decode cL_types 1 = .ok (.lconst 0, 1) := by decide +kernel
theorem dL_types_2 : decode cL_types 2 = .ok (.invokevirtual 20, 3) := by decide +kernel
theorem dL_types_5 : decode cL_types 5 = .ok (.istore 5, 2) := by decide +kernel
theorem dL_types_7 : decode cL_types 7 = .ok (.iconst 0, 1) := by decide +kernel
theorem dL_types_8 : decode cL_types 8 = .ok (.istore 6, 2) := by decide +kernel
theorem dL_types_10 : decode cL_types 10 = .ok (.iconst 0, 1) := by decide +kernel
theorem dL_types_11 : decode cL_types 11 = .ok (.istore 7, 2) := by decide +kernel
theorem dL_types_13 : decode cL_types 13 = .ok (.iload 7, 2) := by decide +kernel
theorem dL_types_15 : decode cL_types 15 = .ok (.bipush 8, 2) := by decide +kernel
theorem dL_types_17 : decode cL_types 17 = .ok (.if_icmp .ge 47, 3) := by decide +kernel
theorem dL_types_20 : decode cL_types 20 = .ok (.lload_n 1, 1) := by decide +kernel
theorem dL_types_21 : decode cL_types 21 = .ok (.bipush 8, 2) := by decide +kernel
theorem dL_types_23 : decode cL_types 23 = .ok (.iload 7, 2) := by decide +kernel
theorem dL_types_25 : decode cL_types 25 = .ok (.imul, 1) := by decide +kernel
theorem dL_types_26 : decode cL_types 26 = .ok (.lshr, 1) := by decide +kernel
theorem dL_types_27 : decode cL_types 27 = .ok (.ldc2_w 26, 3) := by decide +kernel
theorem dL_types_30 : decode cL_types 30 = .ok (.land, 1) := by decide +kernel
theorem dL_types_31 : decode cL_types 31 = .ok (.lconst 0, 1) := by decide +kernel
theorem dL_types_32 : decode cL_types 32 = .ok (.lcmp, 1) := by decide +kernel
theorem dL_types_33 : decode cL_types 33 = .ok (.ifCond .eq 6, 3) := by decide +kernel
theorem dL_types_36 : decode cL_types 36 = .ok (.iinc 6 1, 3) := by decide +kernel
theorem dL_types_39 : decode cL_types 39 = .ok (.lload_n 3, 1) := by decide +kernel
theorem dL_types_40 : decode cL_types 40 = .ok (.bipush 8, 2) := by decide +kernel
theorem dL_types_42 : decode cL_types 42 = .ok (.iload 7, 2) := by decide +kernel
theorem dL_types_44 : decode cL_types 44 = .ok (.imul, 1) := by decide +kernel
theorem dL_types_45 : decode cL_types 45 = .ok (.lshr, 1) := by decide +kernel
theorem dL_types_46 : decode cL_types 46 = .ok (.ldc2_w 26, 3) := by decide +kernel
theorem dL_types_49 : decode cL_types 49 = .ok (.land, 1) := by decide +kernel
theorem dL_types_50 : decode cL_types 50 = .ok (.lconst 0, 1) := by decide +kernel
theorem dL_types_51 : decode cL_types 51 = .ok (.lcmp, 1) := by decide +kernel
theorem dL_types_52 : decode cL_types 52 = .ok (.ifCond .eq 6, 3) := by decide +kernel
theorem dL_types_55 : decode cL_types 55 = .ok (.iinc 6 1, 3) := by decide +kernel
theorem dL_types_58 : decode cL_types 58 = .ok (.iinc 7 1, 3) := by decide +kernel
theorem dL_types_61 : decode cL_types 61 = .ok (.goto (-48), 3) := by decide +kernel
theorem dL_types_64 : decode cL_types 64 = .ok (.aload_n 0, 1) := by decide +kernel
theorem dL_types_65 : decode cL_types 65 = .ok (.lload_n 1, 1) := by decide +kernel
theorem dL_types_66 : decode cL_types 66 = .ok (.invokevirtual 20, 3) := by decide +kernel
theorem dL_types_69 : decode cL_types 69 = .ok (.pop, 1) := by decide +kernel
theorem dL_types_70 : decode cL_types 70 = .ok (.aload_n 0, 1) := by decide +kernel
theorem dL_types_71 : decode cL_types 71 = .ok (.lload_n 3, 1) := by decide +kernel
theorem dL_types_72 : decode cL_types 72 = .ok (.invokevirtual 20, 3) := by decide +kernel
theorem dL_types_75 : decode cL_types 75 = .ok (.iload 5, 2) := by decide +kernel
theorem dL_types_77 : decode cL_types 77 = .ok (.iload 6, 2) := by decide +kernel
theorem dL_types_79 : decode cL_types 79 = .ok (.iadd, 1) := by decide +kernel
theorem dL_types_80 : decode cL_types 80 = .ok (.if_icmp .ne 7, 3) := by decide +kernel
theorem dL_types_83 : decode cL_types 83 = .ok (.iconst 1, 1) := by decide +kernel
theorem dL_types_84 : decode cL_types 84 = .ok (.goto 4, 3) := by decide +kernel
theorem dL_types_87 : decode cL_types 87 = .ok (.iconst 0, 1) := by decide +kernel
theorem dL_types_88 : decode cL_types 88 = .ok (.ireturn, 1) := by decide +kernel
theorem dL_number_0 : decode cL_number 0 = .ok (.iload_n 2, 1) := by decide +kernel
theorem dL_number_1 : decode cL_number 1 = .ok (.ifCond .ge 5, 3) := by decide +kernel
theorem dL_number_4 : decode cL_number 4 = .ok (.iconst (-1), 1) := by decide +kernel
theorem dL_number_5 : decode cL_number 5 = .ok (.ireturn, 1) := by decide +kernel
theorem dL_number_6 : decode cL_number 6 = .ok (.iload 4, 2) := by decide +kernel
theorem dL_number_8 : decode cL_number 8 = .ok (.istore 5, 2) := by decide +kernel
theorem dL_number_10 : decode cL_number 10 = .ok (.iconst 1, 1) := by decide +kernel
theorem dL_number_11 : decode cL_number 11 = .ok (.istore 6, 2) := by decide +kernel
theorem dL_number_13 : decode cL_number 13 = .ok (.iconst 1, 1) := by decide +kernel
theorem dL_number_14 : decode cL_number 14 = .ok (.istore 7, 2) := by decide +kernel
theorem dL_number_16 : decode cL_number 16 = .ok (.iload 5, 2) := by decide +kernel
theorem dL_number_18 : decode cL_number 18 = .ok (.iload 7, 2) := by decide +kernel
theorem dL_number_20 : decode cL_number 20 = .ok (.idiv, 1) := by decide +kernel
theorem dL_number_21 : decode cL_number 21 = .ok (.bipush 10, 2) := by decide +kernel
theorem dL_number_23 : decode cL_number 23 = .ok (.if_icmp .lt 16, 3) := by decide +kernel
theorem dL_number_26 : decode cL_number 26 = .ok (.iload 7, 2) := by decide +kernel
theorem dL_number_28 : decode cL_number 28 = .ok (.bipush 10, 2) := by decide +kernel
theorem dL_number_30 : decode cL_number 30 = .ok (.imul, 1) := by decide +kernel
theorem dL_number_31 : decode cL_number 31 = .ok (.istore 7, 2) := by decide +kernel
theorem dL_number_33 : decode cL_number 33 = .ok (.iinc 6 1, 3) := by decide +kernel
theorem dL_number_36 : decode cL_number 36 = .ok (.goto (-20), 3) := by decide +kernel
theorem dL_number_39 : decode cL_number 39 = .ok (.iload_n 2, 1) := by decide +kernel
theorem dL_number_40 : decode cL_number 40 = .ok (.istore 8, 2) := by decide +kernel
theorem dL_number_42 : decode cL_number 42 = .ok (.iload 6, 2) := by decide +kernel
theorem dL_number_44 : decode cL_number 44 = .ok (.istore 9, 2) := by decide +kernel
theorem dL_number_46 : decode cL_number 46 = .ok (.iload 9, 2) := by decide +kernel
theorem dL_number_48 : decode cL_number 48 = .ok (.iload_n 3, 1) := by decide +kernel
theorem dL_number_49 : decode cL_number 49 = .ok (.if_icmp .ge 27, 3) := by decide +kernel
theorem dL_number_52 : decode cL_number 52 = .ok (.aload_n 0, 1) := by decide +kernel
theorem dL_number_53 : decode cL_number 53 = .ok (.iload_n 1, 1) := by decide +kernel
theorem dL_number_54 : decode cL_number 54 = .ok (.iconst 0, 1) := by decide +kernel
theorem dL_number_55 : decode cL_number 55 = .ok (.iload 8, 2) := by decide +kernel
theorem dL_number_57 : decode cL_number 57 = .ok (.invokevirtual 28, 3) := by decide +kernel
theorem dL_number_60 : decode cL_number 60 = .ok (.bipush 32, 2) := by decide +kernel
theorem dL_number_62 : decode cL_number 62 = .ok (.if_icmp .eq 5, 3) := by decide +kernel
theorem dL_number_65 : decode cL_number 65 = .ok (.iconst (-1), 1) := by decide +kernel
theorem dL_number_66 : decode cL_number 66 = .ok (.ireturn, 1) := by decide +kernel
theorem dL_number_67 : decode cL_number 67 = .ok (.iinc 8 1, 3) := by decide +kernel
theorem dL_number_70 : decode cL_number 70 = .ok (.iinc 9 1, 3) := by decide +kernel
theorem dL_number_73 : decode cL_number 73 = .ok (.goto (-27), 3) := by decide +kernel
theorem dL_number_76 : decode cL_number 76 = .ok (.iload 7, 2) := by decide +kernel
theorem dL_number_78 : decode cL_number 78 = .ok (.istore 9, 2) := by decide +kernel
theorem dL_number_80 : decode cL_number 80 = .ok (.iload 9, 2) := by decide +kernel
theorem dL_number_82 : decode cL_number 82 = .ok (.ifCond .le 40, 3) := by decide +kernel
theorem dL_number_85 : decode cL_number 85 = .ok (.aload_n 0, 1) := by decide +kernel
theorem dL_number_86 : decode cL_number 86 = .ok (.iload_n 1, 1) := by decide +kernel
theorem dL_number_87 : decode cL_number 87 = .ok (.iconst 0, 1) := by decide +kernel
theorem dL_number_88 : decode cL_number 88 = .ok (.iload 8, 2) := by decide +kernel
theorem dL_number_90 : decode cL_number 90 = .ok (.invokevirtual 28, 3) := by decide +kernel
theorem dL_number_93 : decode cL_number 93 = .ok (.bipush 48, 2) := by decide +kernel
theorem dL_number_95 : decode cL_number 95 = .ok (.iload 5, 2) := by decide +kernel
theorem dL_number_97 : decode cL_number 97 = .ok (.iload 9, 2) := by decide +kernel
theorem dL_number_99 : decode cL_number 99 = .ok (.idiv, 1) := by decide +kernel
theorem dL_number_100 : decode cL_number 100 = .ok (.bipush 10, 2) := by decide +kernel
theorem dL_number_102 : decode cL_number 102 = .ok (.irem, 1) := by decide +kernel
theorem dL_number_103 : decode cL_number 103 = .ok (.iadd, 1) := by decide +kernel
theorem dL_number_104 : decode cL_number 104 = .ok (.if_icmp .eq 5, 3) := by decide +kernel
theorem dL_number_107 : decode cL_number 107 = .ok (.iconst (-1), 1) := by decide +kernel
theorem dL_number_108 : decode cL_number 108 = .ok (.ireturn, 1) := by decide +kernel
theorem dL_number_109 : decode cL_number 109 = .ok (.iinc 8 1, 3) := by decide +kernel
theorem dL_number_112 : decode cL_number 112 = .ok (.iload 9, 2) := by decide +kernel
theorem dL_number_114 : decode cL_number 114 = .ok (.bipush 10, 2) := by decide +kernel
theorem dL_number_116 : decode cL_number 116 = .ok (.idiv, 1) := by decide +kernel
theorem dL_number_117 : decode cL_number 117 = .ok (.istore 9, 2) := by decide +kernel
theorem dL_number_119 : decode cL_number 119 = .ok (.goto (-39), 3) := by decide +kernel
theorem dL_number_122 : decode cL_number 122 = .ok (.iload 8, 2) := by decide +kernel
theorem dL_number_124 : decode cL_number 124 = .ok (.ireturn, 1) := by decide +kernel
theorem dL_sign_0 : decode cL_sign 0 = .ok (.iload_n 2, 1) := by decide +kernel
theorem dL_sign_1 : decode cL_sign 1 = .ok (.ifCond .lt 14, 3) := by decide +kernel
theorem dL_sign_4 : decode cL_sign 4 = .ok (.aload_n 0, 1) := by decide +kernel
theorem dL_sign_5 : decode cL_sign 5 = .ok (.iload_n 1, 1) := by decide +kernel
theorem dL_sign_6 : decode cL_sign 6 = .ok (.iconst 0, 1) := by decide +kernel
theorem dL_sign_7 : decode cL_sign 7 = .ok (.iload_n 2, 1) := by decide +kernel
theorem dL_sign_8 : decode cL_sign 8 = .ok (.invokevirtual 28, 3) := by decide +kernel
theorem dL_sign_11 : decode cL_sign 11 = .ok (.iload_n 3, 1) := by decide +kernel
theorem dL_sign_12 : decode cL_sign 12 = .ok (.if_icmp .eq 7, 3) := by decide +kernel
theorem dL_sign_15 : decode cL_sign 15 = .ok (.iconst (-1), 1) := by decide +kernel
theorem dL_sign_16 : decode cL_sign 16 = .ok (.goto 6, 3) := by decide +kernel
theorem dL_sign_19 : decode cL_sign 19 = .ok (.iload_n 2, 1) := by decide +kernel
theorem dL_sign_20 : decode cL_sign 20 = .ok (.iconst 1, 1) := by decide +kernel
theorem dL_sign_21 : decode cL_sign 21 = .ok (.iadd, 1) := by decide +kernel
theorem dL_sign_22 : decode cL_sign 22 = .ok (.ireturn, 1) := by decide +kernel
theorem dL_law_0 : decode cL_law 0 = .ok (.new 21, 3) := by decide +kernel
theorem dL_law_3 : decode cL_law 3 = .ok (.dup, 1) := by decide +kernel
theorem dL_law_4 : decode cL_law 4 = .ok (.invokespecial 32, 3) := by decide +kernel
theorem dL_law_7 : decode cL_law 7 = .ok (.astore_n 1, 1) := by decide +kernel
theorem dL_law_8 : decode cL_law 8 = .ok (.bipush 100, 2) := by decide +kernel
theorem dL_law_10 : decode cL_law 10 = .ok (.aload_n 0, 1) := by decide +kernel
theorem dL_law_11 : decode cL_law 11 = .ok (.iconst 0, 1) := by decide +kernel
theorem dL_law_12 : decode cL_law 12 = .ok (.invokestatic 33, 3) := by decide +kernel
theorem dL_law_15 : decode cL_law 15 = .ok (.sipush 900, 3) := by decide +kernel
theorem dL_law_18 : decode cL_law 18 = .ok (.invokestatic 37, 3) := by decide +kernel
theorem dL_law_21 : decode cL_law 21 = .ok (.iadd, 1) := by decide +kernel
theorem dL_law_22 : decode cL_law 22 = .ok (.istore_n 2, 1) := by decide +kernel
theorem dL_law_23 : decode cL_law 23 = .ok (.iconst 1, 1) := by decide +kernel
theorem dL_law_24 : decode cL_law 24 = .ok (.istore_n 3, 1) := by decide +kernel
theorem dL_law_25 : decode cL_law 25 = .ok (.aload_n 1, 1) := by decide +kernel
theorem dL_law_26 : decode cL_law 26 = .ok (.ldc2_w 41, 3) := by decide +kernel
theorem dL_law_29 : decode cL_law 29 = .ok (.lconst 0, 1) := by decide +kernel
theorem dL_law_30 : decode cL_law 30 = .ok (.invokestatic 43, 3) := by decide +kernel
theorem dL_law_33 : decode cL_law 33 = .ok (.ifCond .ne 5, 3) := by decide +kernel
theorem dL_law_36 : decode cL_law 36 = .ok (.iconst 0, 1) := by decide +kernel
theorem dL_law_37 : decode cL_law 37 = .ok (.ireturn, 1) := by decide +kernel
theorem dL_law_38 : decode cL_law 38 = .ok (.aload_n 1, 1) := by decide +kernel
theorem dL_law_39 : decode cL_law 39 = .ok (.iconst 0, 1) := by decide +kernel
theorem dL_law_40 : decode cL_law 40 = .ok (.invokevirtual 47, 3) := by decide +kernel
theorem dL_law_43 : decode cL_law 43 = .ok (.bipush (-8), 2) := by decide +kernel
theorem dL_law_45 : decode cL_law 45 = .ok (.if_icmp .eq 5, 3) := by decide +kernel
theorem dL_law_48 : decode cL_law 48 = .ok (.iconst 0, 1) := by decide +kernel
theorem dL_law_49 : decode cL_law 49 = .ok (.ireturn, 1) := by decide +kernel
theorem dL_law_50 : decode cL_law 50 = .ok (.aload_n 1, 1) := by decide +kernel
theorem dL_law_51 : decode cL_law 51 = .ok (.ldc2_w 51, 3) := by decide +kernel
theorem dL_law_54 : decode cL_law 54 = .ok (.ldc2_w 53, 3) := by decide +kernel
theorem dL_law_57 : decode cL_law 57 = .ok (.invokestatic 43, 3) := by decide +kernel
theorem dL_law_60 : decode cL_law 60 = .ok (.ifCond .ne 5, 3) := by decide +kernel
theorem dL_law_63 : decode cL_law 63 = .ok (.iconst 0, 1) := by decide +kernel
theorem dL_law_64 : decode cL_law 64 = .ok (.ireturn, 1) := by decide +kernel
theorem dL_law_65 : decode cL_law 65 = .ok (.bipush 48, 2) := by decide +kernel
theorem dL_law_67 : decode cL_law 67 = .ok (.iload_n 2, 1) := by decide +kernel
theorem dL_law_68 : decode cL_law 68 = .ok (.bipush 100, 2) := by decide +kernel
theorem dL_law_70 : decode cL_law 70 = .ok (.idiv, 1) := by decide +kernel
theorem dL_law_71 : decode cL_law 71 = .ok (.iadd, 1) := by decide +kernel
theorem dL_law_72 : decode cL_law 72 = .ok (.bipush 48, 2) := by decide +kernel
theorem dL_law_74 : decode cL_law 74 = .ok (.iload_n 2, 1) := by decide +kernel
theorem dL_law_75 : decode cL_law 75 = .ok (.bipush 10, 2) := by decide +kernel
theorem dL_law_77 : decode cL_law 77 = .ok (.idiv, 1) := by decide +kernel
theorem dL_law_78 : decode cL_law 78 = .ok (.bipush 10, 2) := by decide +kernel
theorem dL_law_80 : decode cL_law 80 = .ok (.irem, 1) := by decide +kernel
theorem dL_law_81 : decode cL_law 81 = .ok (.iadd, 1) := by decide +kernel
theorem dL_law_82 : decode cL_law 82 = .ok (.bipush 8, 2) := by decide +kernel
theorem dL_law_84 : decode cL_law 84 = .ok (.ishl, 1) := by decide +kernel
theorem dL_law_85 : decode cL_law 85 = .ok (.iadd, 1) := by decide +kernel
theorem dL_law_86 : decode cL_law 86 = .ok (.bipush 48, 2) := by decide +kernel
theorem dL_law_88 : decode cL_law 88 = .ok (.iload_n 2, 1) := by decide +kernel
theorem dL_law_89 : decode cL_law 89 = .ok (.bipush 10, 2) := by decide +kernel
theorem dL_law_91 : decode cL_law 91 = .ok (.irem, 1) := by decide +kernel
theorem dL_law_92 : decode cL_law 92 = .ok (.iadd, 1) := by decide +kernel
theorem dL_law_93 : decode cL_law 93 = .ok (.bipush 16, 2) := by decide +kernel
theorem dL_law_95 : decode cL_law 95 = .ok (.ishl, 1) := by decide +kernel
theorem dL_law_96 : decode cL_law 96 = .ok (.iadd, 1) := by decide +kernel
theorem dL_law_97 : decode cL_law 97 = .ok (.i2l, 1) := by decide +kernel
theorem dL_law_98 : decode cL_law 98 = .ok (.lstore 4, 2) := by decide +kernel
theorem dL_law_100 : decode cL_law 100 = .ok (.aload_n 1, 1) := by decide +kernel
theorem dL_law_101 : decode cL_law 101 = .ok (.lload 4, 2) := by decide +kernel
theorem dL_law_103 : decode cL_law 103 = .ok (.ldc2_w 55, 3) := by decide +kernel
theorem dL_law_106 : decode cL_law 106 = .ok (.invokestatic 43, 3) := by decide +kernel
theorem dL_law_109 : decode cL_law 109 = .ok (.ifCond .eq 37, 3) := by decide +kernel
theorem dL_law_112 : decode cL_law 112 = .ok (.aload_n 1, 1) := by decide +kernel
theorem dL_law_113 : decode cL_law 113 = .ok (.ldc2_w 57, 3) := by decide +kernel
theorem dL_law_116 : decode cL_law 116 = .ok (.ldc2_w 59, 3) := by decide +kernel
theorem dL_law_119 : decode cL_law 119 = .ok (.invokestatic 43, 3) := by decide +kernel
theorem dL_law_122 : decode cL_law 122 = .ok (.ifCond .eq 24, 3) := by decide +kernel
theorem dL_law_125 : decode cL_law 125 = .ok (.aload_n 1, 1) := by decide +kernel
theorem dL_law_126 : decode cL_law 126 = .ok (.ldc2_w 61, 3) := by decide +kernel
theorem dL_law_129 : decode cL_law 129 = .ok (.lconst 0, 1) := by decide +kernel
theorem dL_law_130 : decode cL_law 130 = .ok (.invokestatic 43, 3) := by decide +kernel
theorem dL_law_133 : decode cL_law 133 = .ok (.ifCond .eq 13, 3) := by decide +kernel
theorem dL_law_136 : decode cL_law 136 = .ok (.aload_n 1, 1) := by decide +kernel
theorem dL_law_137 : decode cL_law 137 = .ok (.iconst 0, 1) := by decide +kernel
theorem dL_law_138 : decode cL_law 138 = .ok (.invokevirtual 47, 3) := by decide +kernel
theorem dL_law_141 : decode cL_law 141 = .ok (.bipush 8, 2) := by decide +kernel
theorem dL_law_143 : decode cL_law 143 = .ok (.if_icmp .eq 5, 3) := by decide +kernel
theorem dL_law_146 : decode cL_law 146 = .ok (.iconst 0, 1) := by decide +kernel
theorem dL_law_147 : decode cL_law 147 = .ok (.ireturn, 1) := by decide +kernel
theorem dL_law_148 : decode cL_law 148 = .ok (.bipush 64, 2) := by decide +kernel
theorem dL_law_150 : decode cL_law 150 = .ok (.newarray .int, 2) := by decide +kernel
theorem dL_law_152 : decode cL_law 152 = .ok (.astore 6, 2) := by decide +kernel
theorem dL_law_154 : decode cL_law 154 = .ok (.bipush 64, 2) := by decide +kernel
theorem dL_law_156 : decode cL_law 156 = .ok (.newarray .int, 2) := by decide +kernel
theorem dL_law_158 : decode cL_law 158 = .ok (.astore 7, 2) := by decide +kernel
theorem dL_law_160 : decode cL_law 160 = .ok (.bipush 64, 2) := by decide +kernel
theorem dL_law_162 : decode cL_law 162 = .ok (.newarray .int, 2) := by decide +kernel
theorem dL_law_164 : decode cL_law 164 = .ok (.astore 8, 2) := by decide +kernel
theorem dL_law_166 : decode cL_law 166 = .ok (.bipush 32, 2) := by decide +kernel
theorem dL_law_168 : decode cL_law 168 = .ok (.newarray .int, 2) := by decide +kernel
theorem dL_law_170 : decode cL_law 170 = .ok (.astore 9, 2) := by decide +kernel
theorem dL_law_172 : decode cL_law 172 = .ok (.bipush 16, 2) := by decide +kernel
theorem dL_law_174 : decode cL_law 174 = .ok (.newarray .int, 2) := by decide +kernel
theorem dL_law_176 : decode cL_law 176 = .ok (.astore 10, 2) := by decide +kernel
theorem dL_law_178 : decode cL_law 178 = .ok (.iconst 4, 1) := by decide +kernel
theorem dL_law_179 : decode cL_law 179 = .ok (.newarray .int, 2) := by decide +kernel
theorem dL_law_181 : decode cL_law 181 = .ok (.astore 11, 2) := by decide +kernel
theorem dL_law_183 : decode cL_law 183 = .ok (.iconst 0, 1) := by decide +kernel
theorem dL_law_184 : decode cL_law 184 = .ok (.istore 12, 2) := by decide +kernel
theorem dL_law_186 : decode cL_law 186 = .ok (.iconst 0, 1) := by decide +kernel
theorem dL_law_187 : decode cL_law 187 = .ok (.istore 13, 2) := by decide +kernel
theorem dL_law_189 : decode cL_law 189 = .ok (.iconst 0, 1) := by decide +kernel
theorem dL_law_190 : decode cL_law 190 = .ok (.istore 14, 2) := by decide +kernel
theorem dL_law_192 : decode cL_law 192 = .ok (.iconst 0, 1) := by decide +kernel
theorem dL_law_193 : decode cL_law 193 = .ok (.istore 15, 2) := by decide +kernel
theorem dL_law_195 : decode cL_law 195 = .ok (.iconst 0, 1) := by decide +kernel
theorem dL_law_196 : decode cL_law 196 = .ok (.istore 16, 2) := by decide +kernel
theorem dL_law_198 : decode cL_law 198 = .ok (.iload 16, 2) := by decide +kernel
theorem dL_law_200 : decode cL_law 200 = .ok (.bipush 40, 2) := by decide +kernel
theorem dL_law_202 : decode cL_law 202 = .ok (.if_icmp .ge 1447, 3) := by decide +kernel
theorem dL_law_205 : decode cL_law 205 = .ok (.aload_n 0, 1) := by decide +kernel
theorem dL_law_206 : decode cL_law 206 = .ok (.iload_n 3, 1) := by decide +kernel
theorem dL_law_207 : decode cL_law 207 = .ok (.invokestatic 33, 3) := by decide +kernel
theorem dL_law_210 : decode cL_law 210 = .ok (.istore 17, 2) := by decide +kernel
theorem dL_law_212 : decode cL_law 212 = .ok (.aload_n 0, 1) := by decide +kernel
theorem dL_law_213 : decode cL_law 213 = .ok (.iload_n 3, 1) := by decide +kernel
theorem dL_law_214 : decode cL_law 214 = .ok (.iconst 1, 1) := by decide +kernel
theorem dL_law_215 : decode cL_law 215 = .ok (.iadd, 1) := by decide +kernel
theorem dL_law_216 : decode cL_law 216 = .ok (.invokestatic 33, 3) := by decide +kernel
theorem dL_law_219 : decode cL_law 219 = .ok (.istore 18, 2) := by decide +kernel
theorem dL_law_221 : decode cL_law 221 = .ok (.iinc 3 2, 3) := by decide +kernel
theorem dL_law_224 : decode cL_law 224 = .ok (.iload 17, 2) := by decide +kernel
theorem dL_law_226 : decode cL_law 226 = .ok (.bipush 9, 2) := by decide +kernel
theorem dL_law_228 : decode cL_law 228 = .ok (.invokestatic 37, 3) := by decide +kernel
theorem dL_law_231 : decode cL_law 231 = .ok (.istore 19, 2) := by decide +kernel
theorem dL_law_233 : decode cL_law 233 = .ok (.iload 17, 2) := by decide +kernel
theorem dL_law_235 : decode cL_law 235 = .ok (.iconst 4, 1) := by decide +kernel
theorem dL_law_236 : decode cL_law 236 = .ok (.ishr, 1) := by decide +kernel
theorem dL_law_237 : decode cL_law 237 = .ok (.iconst 2, 1) := by decide +kernel
theorem dL_law_238 : decode cL_law 238 = .ok (.invokestatic 37, 3) := by decide +kernel
theorem dL_law_241 : decode cL_law 241 = .ok (.istore 20, 2) := by decide +kernel
theorem dL_law_243 : decode cL_law 243 = .ok (.iload 19, 2) := by decide +kernel
theorem dL_law_245 : decode cL_law 245 = .ok (.iconst 3, 1) := by decide +kernel
theorem dL_law_246 : decode cL_law 246 = .ok (.if_icmp .ge 118, 3) := by decide +kernel
theorem dL_law_249 : decode cL_law 249 = .ok (.iload 13, 2) := by decide +kernel
theorem dL_law_251 : decode cL_law 251 = .ok (.bipush 15, 2) := by decide +kernel
theorem dL_law_253 : decode cL_law 253 = .ok (.if_icmp .ge 111, 3) := by decide +kernel
theorem dL_law_256 : decode cL_law 256 = .ok (.aload 6, 2) := by decide +kernel
theorem dL_law_258 : decode cL_law 258 = .ok (.iconst 4, 1) := by decide +kernel
theorem dL_law_259 : decode cL_law 259 = .ok (.iload 13, 2) := by decide +kernel
theorem dL_law_261 : decode cL_law 261 = .ok (.imul, 1) := by decide +kernel
theorem dL_law_262 : decode cL_law 262 = .ok (.iload 20, 2) := by decide +kernel
theorem dL_law_264 : decode cL_law 264 = .ok (.iastore, 1) := by decide +kernel
theorem dL_law_265 : decode cL_law 265 = .ok (.aload 6, 2) := by decide +kernel
theorem dL_law_267 : decode cL_law 267 = .ok (.iconst 4, 1) := by decide +kernel
theorem dL_law_268 : decode cL_law 268 = .ok (.iload 13, 2) := by decide +kernel
theorem dL_law_270 : decode cL_law 270 = .ok (.imul, 1) := by decide +kernel
theorem dL_law_271 : decode cL_law 271 = .ok (.iconst 1, 1) := by decide +kernel
theorem dL_law_272 : decode cL_law 272 = .ok (.iadd, 1) := by decide +kernel
theorem dL_law_273 : decode cL_law 273 = .ok (.iload 17, 2) := by decide +kernel
theorem dL_law_275 : decode cL_law 275 = .ok (.bipush 6, 2) := by decide +kernel
theorem dL_law_277 : decode cL_law 277 = .ok (.ishr, 1) := by decide +kernel
theorem dL_law_278 : decode cL_law 278 = .ok (.iconst 3, 1) := by decide +kernel
theorem dL_law_279 : decode cL_law 279 = .ok (.invokestatic 37, 3) := by decide +kernel
theorem dL_law_282 : decode cL_law 282 = .ok (.iastore, 1) := by decide +kernel
theorem dL_law_283 : decode cL_law 283 = .ok (.aload 6, 2) := by decide +kernel
theorem dL_law_285 : decode cL_law 285 = .ok (.iconst 4, 1) := by decide +kernel
theorem dL_law_286 : decode cL_law 286 = .ok (.iload 13, 2) := by decide +kernel
theorem dL_law_288 : decode cL_law 288 = .ok (.imul, 1) := by decide +kernel
theorem dL_law_289 : decode cL_law 289 = .ok (.iconst 2, 1) := by decide +kernel
theorem dL_law_290 : decode cL_law 290 = .ok (.iadd, 1) := by decide +kernel
theorem dL_law_291 : decode cL_law 291 = .ok (.iload 18, 2) := by decide +kernel
theorem dL_law_293 : decode cL_law 293 = .ok (.bipush 101, 2) := by decide +kernel
theorem dL_law_295 : decode cL_law 295 = .ok (.invokestatic 37, 3) := by decide +kernel
theorem dL_law_298 : decode cL_law 298 = .ok (.iastore, 1) := by decide +kernel
theorem dL_law_299 : decode cL_law 299 = .ok (.aload 6, 2) := by decide +kernel
theorem dL_law_301 : decode cL_law 301 = .ok (.iconst 4, 1) := by decide +kernel
theorem dL_law_302 : decode cL_law 302 = .ok (.iload 13, 2) := by decide +kernel
theorem dL_law_304 : decode cL_law 304 = .ok (.imul, 1) := by decide +kernel
theorem dL_law_305 : decode cL_law 305 = .ok (.iconst 3, 1) := by decide +kernel
theorem dL_law_306 : decode cL_law 306 = .ok (.iadd, 1) := by decide +kernel
theorem dL_law_307 : decode cL_law 307 = .ok (.iload 18, 2) := by decide +kernel
theorem dL_law_309 : decode cL_law 309 = .ok (.bipush 8, 2) := by decide +kernel
theorem dL_law_311 : decode cL_law 311 = .ok (.ishr, 1) := by decide +kernel
theorem dL_law_312 : decode cL_law 312 = .ok (.bipush 30, 2) := by decide +kernel
theorem dL_law_314 : decode cL_law 314 = .ok (.invokestatic 37, 3) := by decide +kernel
theorem dL_law_317 : decode cL_law 317 = .ok (.iastore, 1) := by decide +kernel
theorem dL_law_318 : decode cL_law 318 = .ok (.aload_n 1, 1) := by decide +kernel
theorem dL_law_319 : decode cL_law 319 = .ok (.iload 20, 2) := by decide +kernel
theorem dL_law_321 : decode cL_law 321 = .ok (.aload 6, 2) := by decide +kernel
theorem dL_law_323 : decode cL_law 323 = .ok (.iconst 4, 1) := by decide +kernel
theorem dL_law_324 : decode cL_law 324 = .ok (.iload 13, 2) := by decide +kernel
theorem dL_law_326 : decode cL_law 326 = .ok (.imul, 1) := by decide +kernel
theorem dL_law_327 : decode cL_law 327 = .ok (.iconst 1, 1) := by decide +kernel
theorem dL_law_328 : decode cL_law 328 = .ok (.iadd, 1) := by decide +kernel
theorem dL_law_329 : decode cL_law 329 = .ok (.iaload, 1) := by decide +kernel
theorem dL_law_330 : decode cL_law 330 = .ok (.aload 6, 2) := by decide +kernel
theorem dL_law_332 : decode cL_law 332 = .ok (.iconst 4, 1) := by decide +kernel
theorem dL_law_333 : decode cL_law 333 = .ok (.iload 13, 2) := by decide +kernel
theorem dL_law_335 : decode cL_law 335 = .ok (.imul, 1) := by decide +kernel
theorem dL_law_336 : decode cL_law 336 = .ok (.iconst 2, 1) := by decide +kernel
theorem dL_law_337 : decode cL_law 337 = .ok (.iadd, 1) := by decide +kernel
theorem dL_law_338 : decode cL_law 338 = .ok (.iaload, 1) := by decide +kernel
theorem dL_law_339 : decode cL_law 339 = .ok (.aload 6, 2) := by decide +kernel
theorem dL_law_341 : decode cL_law 341 = .ok (.iconst 4, 1) := by decide +kernel
theorem dL_law_342 : decode cL_law 342 = .ok (.iload 13, 2) := by decide +kernel
theorem dL_law_344 : decode cL_law 344 = .ok (.imul, 1) := by decide +kernel
theorem dL_law_345 : decode cL_law 345 = .ok (.iconst 3, 1) := by decide +kernel
theorem dL_law_346 : decode cL_law 346 = .ok (.iadd, 1) := by decide +kernel
theorem dL_law_347 : decode cL_law 347 = .ok (.iaload, 1) := by decide +kernel
theorem dL_law_348 : decode cL_law 348 = .ok (.invokevirtual 63, 3) := by decide +kernel
theorem dL_law_351 : decode cL_law 351 = .ok (.iload 13, 2) := by decide +kernel
theorem dL_law_353 : decode cL_law 353 = .ok (.if_icmp .eq 5, 3) := by decide +kernel
theorem dL_law_356 : decode cL_law 356 = .ok (.iconst 0, 1) := by decide +kernel
theorem dL_law_357 : decode cL_law 357 = .ok (.ireturn, 1) := by decide +kernel
theorem dL_law_358 : decode cL_law 358 = .ok (.iinc 13 1, 3) := by decide +kernel
theorem dL_law_361 : decode cL_law 361 = .ok (.goto 1117, 3) := by decide +kernel
theorem dL_law_364 : decode cL_law 364 = .ok (.iload 19, 2) := by decide +kernel
theorem dL_law_366 : decode cL_law 366 = .ok (.iconst 3, 1) := by decide +kernel
theorem dL_law_367 : decode cL_law 367 = .ok (.if_icmp .ne 35, 3) := by decide +kernel
theorem dL_law_370 : decode cL_law 370 = .ok (.iload 12, 2) := by decide +kernel
theorem dL_law_372 : decode cL_law 372 = .ok (.iconst 1, 1) := by decide +kernel
theorem dL_law_373 : decode cL_law 373 = .ok (.iload 18, 2) := by decide +kernel
theorem dL_law_375 : decode cL_law 375 = .ok (.iconst 4, 1) := by decide +kernel
theorem dL_law_376 : decode cL_law 376 = .ok (.invokestatic 37, 3) := by decide +kernel
theorem dL_law_379 : decode cL_law 379 = .ok (.iadd, 1) := by decide +kernel
theorem dL_law_380 : decode cL_law 380 = .ok (.iadd, 1) := by decide +kernel
theorem dL_law_381 : decode cL_law 381 = .ok (.istore 12, 2) := by decide +kernel
theorem dL_law_383 : decode cL_law 383 = .ok (.aload_n 1, 1) := by decide +kernel
theorem dL_law_384 : decode cL_law 384 = .ok (.iconst 1, 1) := by decide +kernel
theorem dL_law_385 : decode cL_law 385 = .ok (.iload 18, 2) := by decide +kernel
theorem dL_law_387 : decode cL_law 387 = .ok (.iconst 4, 1) := by decide +kernel
theorem dL_law_388 : decode cL_law 388 = .ok (.invokestatic 37, 3) := by decide +kernel
theorem dL_law_391 : decode cL_law 391 = .ok (.iadd, 1) := by decide +kernel
theorem dL_law_392 : decode cL_law 392 = .ok (.invokevirtual 67, 3) := by decide +kernel
theorem dL_law_395 : decode cL_law 395 = .ok (.iload 12, 2) := by decide +kernel
theorem dL_law_397 : decode cL_law 397 = .ok (.if_icmp .eq 1081, 3) := by decide +kernel
theorem dL_law_400 : decode cL_law 400 = .ok (.iconst 0, 1) := by decide +kernel
theorem dL_law_401 : decode cL_law 401 = .ok (.ireturn, 1) := by decide +kernel
theorem dL_law_402 : decode cL_law 402 = .ok (.iload 19, 2) := by decide +kernel
theorem dL_law_404 : decode cL_law 404 = .ok (.iconst 4, 1) := by decide +kernel
theorem dL_law_405 : decode cL_law 405 = .ok (.if_icmp .ne 84, 3) := by decide +kernel
theorem dL_law_408 : decode cL_law 408 = .ok (.iload 18, 2) := by decide +kernel
theorem dL_law_410 : decode cL_law 410 = .ok (.iconst 3, 1) := by decide +kernel
theorem dL_law_411 : decode cL_law 411 = .ok (.invokestatic 37, 3) := by decide +kernel
theorem dL_law_414 : decode cL_law 414 = .ok (.istore 21, 2) := by decide +kernel
theorem dL_law_416 : decode cL_law 416 = .ok (.aload_n 1, 1) := by decide +kernel
theorem dL_law_417 : decode cL_law 417 = .ok (.iload 20, 2) := by decide +kernel
theorem dL_law_419 : decode cL_law 419 = .ok (.iload 21, 2) := by decide +kernel
theorem dL_law_421 : decode cL_law 421 = .ok (.invokevirtual 70, 3) := by decide +kernel
theorem dL_law_424 : decode cL_law 424 = .ok (.aload 11, 2) := by decide +kernel
theorem dL_law_426 : decode cL_law 426 = .ok (.iload 20, 2) := by decide +kernel
theorem dL_law_428 : decode cL_law 428 = .ok (.iaload, 1) := by decide +kernel
theorem dL_law_429 : decode cL_law 429 = .ok (.if_icmp .eq 5, 3) := by decide +kernel
theorem dL_law_432 : decode cL_law 432 = .ok (.iconst 0, 1) := by decide +kernel
theorem dL_law_433 : decode cL_law 433 = .ok (.ireturn, 1) := by decide +kernel
theorem dL_law_434 : decode cL_law 434 = .ok (.aload 11, 2) := by decide +kernel
theorem dL_law_436 : decode cL_law 436 = .ok (.iload 20, 2) := by decide +kernel
theorem dL_law_438 : decode cL_law 438 = .ok (.iload 21, 2) := by decide +kernel
theorem dL_law_440 : decode cL_law 440 = .ok (.iastore, 1) := by decide +kernel
theorem dL_law_441 : decode cL_law 441 = .ok (.iload 18, 2) := by decide +kernel
theorem dL_law_443 : decode cL_law 443 = .ok (.iconst 3, 1) := by decide +kernel
theorem dL_law_444 : decode cL_law 444 = .ok (.ishr, 1) := by decide +kernel
theorem dL_law_445 : decode cL_law 445 = .ok (.iconst 3, 1) := by decide +kernel
theorem dL_law_446 : decode cL_law 446 = .ok (.invokestatic 37, 3) := by decide +kernel
theorem dL_law_449 : decode cL_law 449 = .ok (.istore 22, 2) := by decide +kernel
theorem dL_law_451 : decode cL_law 451 = .ok (.iload 18, 2) := by decide +kernel
theorem dL_law_453 : decode cL_law 453 = .ok (.iconst 5, 1) := by decide +kernel
theorem dL_law_454 : decode cL_law 454 = .ok (.ishr, 1) := by decide +kernel
theorem dL_law_455 : decode cL_law 455 = .ok (.iconst 2, 1) := by decide +kernel
theorem dL_law_456 : decode cL_law 456 = .ok (.invokestatic 37, 3) := by decide +kernel
theorem dL_law_459 : decode cL_law 459 = .ok (.istore 23, 2) := by decide +kernel
theorem dL_law_461 : decode cL_law 461 = .ok (.aload_n 1, 1) := by decide +kernel
theorem dL_law_462 : decode cL_law 462 = .ok (.iload 22, 2) := by decide +kernel
theorem dL_law_464 : decode cL_law 464 = .ok (.iload 23, 2) := by decide +kernel
theorem dL_law_466 : decode cL_law 466 = .ok (.invokevirtual 73, 3) := by decide +kernel
theorem dL_law_469 : decode cL_law 469 = .ok (.aload 10, 2) := by decide +kernel
theorem dL_law_471 : decode cL_law 471 = .ok (.iload 22, 2) := by decide +kernel
theorem dL_law_473 : decode cL_law 473 = .ok (.iaload, 1) := by decide +kernel
theorem dL_law_474 : decode cL_law 474 = .ok (.if_icmp .eq 5, 3) := by decide +kernel
theorem dL_law_477 : decode cL_law 477 = .ok (.iconst 0, 1) := by decide +kernel
theorem dL_law_478 : decode cL_law 478 = .ok (.ireturn, 1) := by decide +kernel
theorem dL_law_479 : decode cL_law 479 = .ok (.aload 10, 2) := by decide +kernel
theorem dL_law_481 : decode cL_law 481 = .ok (.iload 22, 2) := by decide +kernel
theorem dL_law_483 : decode cL_law 483 = .ok (.iload 23, 2) := by decide +kernel
theorem dL_law_485 : decode cL_law 485 = .ok (.iastore, 1) := by decide +kernel
theorem dL_law_486 : decode cL_law 486 = .ok (.goto 992, 3) := by decide +kernel
theorem dL_law_489 : decode cL_law 489 = .ok (.iload 19, 2) := by decide +kernel
theorem dL_law_491 : decode cL_law 491 = .ok (.bipush 7, 2) := by decide +kernel
theorem dL_law_493 : decode cL_law 493 = .ok (.if_icmp .ge 825, 3) := by decide +kernel
theorem dL_law_496 : decode cL_law 496 = .ok (.iload 14, 2) := by decide +kernel
theorem dL_law_498 : decode cL_law 498 = .ok (.bipush 7, 2) := by decide +kernel
theorem dL_law_500 : decode cL_law 500 = .ok (.if_icmp .ge 818, 3) := by decide +kernel
theorem dL_law_503 : decode cL_law 503 = .ok (.iconst 1, 1) := by decide +kernel
theorem dL_law_504 : decode cL_law 504 = .ok (.iload 18, 2) := by decide +kernel
theorem dL_law_506 : decode cL_law 506 = .ok (.iconst 3, 1) := by decide +kernel
theorem dL_law_507 : decode cL_law 507 = .ok (.invokestatic 37, 3) := by decide +kernel
theorem dL_law_510 : decode cL_law 510 = .ok (.iadd, 1) := by decide +kernel
theorem dL_law_511 : decode cL_law 511 = .ok (.istore 21, 2) := by decide +kernel
theorem dL_law_513 : decode cL_law 513 = .ok (.iload 18, 2) := by decide +kernel
theorem dL_law_515 : decode cL_law 515 = .ok (.iconst 2, 1) := by decide +kernel
theorem dL_law_516 : decode cL_law 516 = .ok (.ishr, 1) := by decide +kernel
theorem dL_law_517 : decode cL_law 517 = .ok (.iconst 3, 1) := by decide +kernel
theorem dL_law_518 : decode cL_law 518 = .ok (.invokestatic 37, 3) := by decide +kernel
theorem dL_law_521 : decode cL_law 521 = .ok (.istore 22, 2) := by decide +kernel
theorem dL_law_523 : decode cL_law 523 = .ok (.aload 7, 2) := by decide +kernel
theorem dL_law_525 : decode cL_law 525 = .ok (.bipush 7, 2) := by decide +kernel
theorem dL_law_527 : decode cL_law 527 = .ok (.iload 14, 2) := by decide +kernel
theorem dL_law_529 : decode cL_law 529 = .ok (.imul, 1) := by decide +kernel
theorem dL_law_530 : decode cL_law 530 = .ok (.iload 22, 2) := by decide +kernel
theorem dL_law_532 : decode cL_law 532 = .ok (.iastore, 1) := by decide +kernel
theorem dL_law_533 : decode cL_law 533 = .ok (.aload 7, 2) := by decide +kernel
theorem dL_law_535 : decode cL_law 535 = .ok (.bipush 7, 2) := by decide +kernel
theorem dL_law_537 : decode cL_law 537 = .ok (.iload 14, 2) := by decide +kernel
theorem dL_law_539 : decode cL_law 539 = .ok (.imul, 1) := by decide +kernel
theorem dL_law_540 : decode cL_law 540 = .ok (.iconst 1, 1) := by decide +kernel
theorem dL_law_541 : decode cL_law 541 = .ok (.iadd, 1) := by decide +kernel
theorem dL_law_542 : decode cL_law 542 = .ok (.iload 12, 2) := by decide +kernel
theorem dL_law_544 : decode cL_law 544 = .ok (.iastore, 1) := by decide +kernel
theorem dL_law_545 : decode cL_law 545 = .ok (.aload 7, 2) := by decide +kernel
theorem dL_law_547 : decode cL_law 547 = .ok (.bipush 7, 2) := by decide +kernel
theorem dL_law_549 : decode cL_law 549 = .ok (.iload 14, 2) := by decide +kernel
theorem dL_law_551 : decode cL_law 551 = .ok (.imul, 1) := by decide +kernel
theorem dL_law_552 : decode cL_law 552 = .ok (.iconst 2, 1) := by decide +kernel
theorem dL_law_553 : decode cL_law 553 = .ok (.iadd, 1) := by decide +kernel
theorem dL_law_554 : decode cL_law 554 = .ok (.iload 21, 2) := by decide +kernel
theorem dL_law_556 : decode cL_law 556 = .ok (.iastore, 1) := by decide +kernel
theorem dL_law_557 : decode cL_law 557 = .ok (.aload 7, 2) := by decide +kernel
theorem dL_law_559 : decode cL_law 559 = .ok (.bipush 7, 2) := by decide +kernel
theorem dL_law_561 : decode cL_law 561 = .ok (.iload 14, 2) := by decide +kernel
theorem dL_law_563 : decode cL_law 563 = .ok (.imul, 1) := by decide +kernel
theorem dL_law_564 : decode cL_law 564 = .ok (.iconst 3, 1) := by decide +kernel
theorem dL_law_565 : decode cL_law 565 = .ok (.iadd, 1) := by decide +kernel
theorem dL_law_566 : decode cL_law 566 = .ok (.aload 10, 2) := by decide +kernel
theorem dL_law_568 : decode cL_law 568 = .ok (.iload 22, 2) := by decide +kernel
theorem dL_law_570 : decode cL_law 570 = .ok (.iaload, 1) := by decide +kernel
theorem dL_law_571 : decode cL_law 571 = .ok (.iastore, 1) := by decide +kernel
theorem dL_law_572 : decode cL_law 572 = .ok (.aload 7, 2) := by decide +kernel
theorem dL_law_574 : decode cL_law 574 = .ok (.bipush 7, 2) := by decide +kernel
theorem dL_law_576 : decode cL_law 576 = .ok (.iload 14, 2) := by decide +kernel
theorem dL_law_578 : decode cL_law 578 = .ok (.imul, 1) := by decide +kernel
theorem dL_law_579 : decode cL_law 579 = .ok (.iconst 4, 1) := by decide +kernel
theorem dL_law_580 : decode cL_law 580 = .ok (.iadd, 1) := by decide +kernel
theorem dL_law_581 : decode cL_law 581 = .ok (.aload 11, 2) := by decide +kernel
theorem dL_law_583 : decode cL_law 583 = .ok (.aload 10, 2) := by decide +kernel
theorem dL_law_585 : decode cL_law 585 = .ok (.iload 22, 2) := by decide +kernel
theorem dL_law_587 : decode cL_law 587 = .ok (.iaload, 1) := by decide +kernel
theorem dL_law_588 : decode cL_law 588 = .ok (.iaload, 1) := by decide +kernel
theorem dL_law_589 : decode cL_law 589 = .ok (.iastore, 1) := by decide +kernel
theorem dL_law_590 : decode cL_law 590 = .ok (.iconst 4, 1) := by decide +kernel
theorem dL_law_591 : decode cL_law 591 = .ok (.newarray .int, 2) := by decide +kernel
theorem dL_law_593 : decode cL_law 593 = .ok (.astore 23, 2) := by decide +kernel
theorem dL_law_595 : decode cL_law 595 = .ok (.iconst 0, 1) := by decide +kernel
theorem dL_law_596 : decode cL_law 596 = .ok (.istore 24, 2) := by decide +kernel
theorem dL_law_598 : decode cL_law 598 = .ok (.iconst 0, 1) := by decide +kernel
theorem dL_law_599 : decode cL_law 599 = .ok (.istore 25, 2) := by decide +kernel
theorem dL_law_601 : decode cL_law 601 = .ok (.iload 25, 2) := by decide +kernel
theorem dL_law_603 : decode cL_law 603 = .ok (.iload 21, 2) := by decide +kernel
theorem dL_law_605 : decode cL_law 605 = .ok (.if_icmp .ge 204, 3) := by decide +kernel
theorem dL_law_608 : decode cL_law 608 = .ok (.aload_n 0, 1) := by decide +kernel
theorem dL_law_609 : decode cL_law 609 = .ok (.iload_n 3, 1) := by decide +kernel
theorem dL_law_610 : decode cL_law 610 = .ok (.iload 25, 2) := by decide +kernel
theorem dL_law_612 : decode cL_law 612 = .ok (.iadd, 1) := by decide +kernel
theorem dL_law_613 : decode cL_law 613 = .ok (.invokestatic 33, 3) := by decide +kernel
theorem dL_law_616 : decode cL_law 616 = .ok (.istore 26, 2) := by decide +kernel
theorem dL_law_618 : decode cL_law 618 = .ok (.bipush 9, 2) := by decide +kernel
theorem dL_law_620 : decode cL_law 620 = .ok (.iload 14, 2) := by decide +kernel
theorem dL_law_622 : decode cL_law 622 = .ok (.imul, 1) := by decide +kernel
theorem dL_law_623 : decode cL_law 623 = .ok (.iconst 3, 1) := by decide +kernel
theorem dL_law_624 : decode cL_law 624 = .ok (.iload 25, 2) := by decide +kernel
theorem dL_law_626 : decode cL_law 626 = .ok (.imul, 1) := by decide +kernel
theorem dL_law_627 : decode cL_law 627 = .ok (.iadd, 1) := by decide +kernel
theorem dL_law_628 : decode cL_law 628 = .ok (.istore 27, 2) := by decide +kernel
theorem dL_law_630 : decode cL_law 630 = .ok (.aload 8, 2) := by decide +kernel
theorem dL_law_632 : decode cL_law 632 = .ok (.iload 27, 2) := by decide +kernel
theorem dL_law_634 : decode cL_law 634 = .ok (.iload 26, 2) := by decide +kernel
theorem dL_law_636 : decode cL_law 636 = .ok (.iconst 3, 1) := by decide +kernel
theorem dL_law_637 : decode cL_law 637 = .ok (.invokestatic 37, 3) := by decide +kernel
theorem dL_law_640 : decode cL_law 640 = .ok (.iastore, 1) := by decide +kernel
theorem dL_law_641 : decode cL_law 641 = .ok (.aload 8, 2) := by decide +kernel
theorem dL_law_643 : decode cL_law 643 = .ok (.iload 27, 2) := by decide +kernel
theorem dL_law_645 : decode cL_law 645 = .ok (.iconst 1, 1) := by decide +kernel
theorem dL_law_646 : decode cL_law 646 = .ok (.iadd, 1) := by decide +kernel
theorem dL_law_647 : decode cL_law 647 = .ok (.iconst 1, 1) := by decide +kernel
theorem dL_law_648 : decode cL_law 648 = .ok (.iload 26, 2) := by decide +kernel
theorem dL_law_650 : decode cL_law 650 = .ok (.iconst 3, 1) := by decide +kernel
theorem dL_law_651 : decode cL_law 651 = .ok (.ishr, 1) := by decide +kernel
theorem dL_law_652 : decode cL_law 652 = .ok (.iload 26, 2) := by decide +kernel
theorem dL_law_654 : decode cL_law 654 = .ok (.iconst 2, 1) := by decide +kernel
theorem dL_law_655 : decode cL_law 655 = .ok (.ishr, 1) := by decide +kernel
theorem dL_law_656 : decode cL_law 656 = .ok (.iconst 2, 1) := by decide +kernel
theorem dL_law_657 : decode cL_law 657 = .ok (.invokestatic 37, 3) := by decide +kernel
theorem dL_law_660 : decode cL_law 660 = .ok (.ifCond .ne 8, 3) := by decide +kernel
theorem dL_law_663 : decode cL_law 663 = .ok (.bipush 9, 2) := by decide +kernel
theorem dL_law_665 : decode cL_law 665 = .ok (.goto 5, 3) := by decide +kernel
theorem dL_law_668 : decode cL_law 668 = .ok (.bipush 99, 2) := by decide +kernel
theorem dL_law_670 : decode cL_law 670 = .ok (.invokestatic 37, 3) := by decide +kernel
theorem dL_law_673 : decode cL_law 673 = .ok (.iadd, 1) := by decide +kernel
theorem dL_law_674 : decode cL_law 674 = .ok (.iastore, 1) := by decide +kernel
theorem dL_law_675 : decode cL_law 675 = .ok (.aload 8, 2) := by decide +kernel
theorem dL_law_677 : decode cL_law 677 = .ok (.iload 27, 2) := by decide +kernel
theorem dL_law_679 : decode cL_law 679 = .ok (.iconst 2, 1) := by decide +kernel
theorem dL_law_680 : decode cL_law 680 = .ok (.iadd, 1) := by decide +kernel
theorem dL_law_681 : decode cL_law 681 = .ok (.iconst 1, 1) := by decide +kernel
theorem dL_law_682 : decode cL_law 682 = .ok (.iload 26, 2) := by decide +kernel
theorem dL_law_684 : decode cL_law 684 = .ok (.bipush 10, 2) := by decide +kernel
theorem dL_law_686 : decode cL_law 686 = .ok (.ishr, 1) := by decide +kernel
theorem dL_law_687 : decode cL_law 687 = .ok (.iload 26, 2) := by decide +kernel
theorem dL_law_689 : decode cL_law 689 = .ok (.bipush 9, 2) := by decide +kernel
theorem dL_law_691 : decode cL_law 691 = .ok (.ishr, 1) := by decide +kernel
theorem dL_law_692 : decode cL_law 692 = .ok (.iconst 2, 1) := by decide +kernel
theorem dL_law_693 : decode cL_law 693 = .ok (.invokestatic 37, 3) := by decide +kernel
theorem dL_law_696 : decode cL_law 696 = .ok (.ifCond .ne 8, 3) := by decide +kernel
theorem dL_law_699 : decode cL_law 699 = .ok (.bipush 99, 2) := by decide +kernel
theorem dL_law_701 : decode cL_law 701 = .ok (.goto 6, 3) := by decide +kernel
theorem dL_law_704 : decode cL_law 704 = .ok (.sipush 9999, 3) := by decide +kernel
theorem dL_law_707 : decode cL_law 707 = .ok (.invokestatic 37, 3) := by decide +kernel
theorem dL_law_710 : decode cL_law 710 = .ok (.iadd, 1) := by decide +kernel
theorem dL_law_711 : decode cL_law 711 = .ok (.iastore, 1) := by decide +kernel
theorem dL_law_712 : decode cL_law 712 = .ok (.aload_n 1, 1) := by decide +kernel
theorem dL_law_713 : decode cL_law 713 = .ok (.aload 8, 2) := by decide +kernel
theorem dL_law_715 : decode cL_law 715 = .ok (.iload 27, 2) := by decide +kernel
theorem dL_law_717 : decode cL_law 717 = .ok (.iaload, 1) := by decide +kernel
theorem dL_law_718 : decode cL_law 718 = .ok (.aload 8, 2) := by decide +kernel
theorem dL_law_720 : decode cL_law 720 = .ok (.iload 27, 2) := by decide +kernel
theorem dL_law_722 : decode cL_law 722 = .ok (.iconst 1, 1) := by decide +kernel
theorem dL_law_723 : decode cL_law 723 = .ok (.iadd, 1) := by decide +kernel
theorem dL_law_724 : decode cL_law 724 = .ok (.iaload, 1) := by decide +kernel
theorem dL_law_725 : decode cL_law 725 = .ok (.aload 8, 2) := by decide +kernel
theorem dL_law_727 : decode cL_law 727 = .ok (.iload 27, 2) := by decide +kernel
theorem dL_law_729 : decode cL_law 729 = .ok (.iconst 2, 1) := by decide +kernel
theorem dL_law_730 : decode cL_law 730 = .ok (.iadd, 1) := by decide +kernel
theorem dL_law_731 : decode cL_law 731 = .ok (.iaload, 1) := by decide +kernel
theorem dL_law_732 : decode cL_law 732 = .ok (.invokevirtual 76, 3) := by decide +kernel
theorem dL_law_735 : decode cL_law 735 = .ok (.iload 25, 2) := by decide +kernel
theorem dL_law_737 : decode cL_law 737 = .ok (.iconst 1, 1) := by decide +kernel
theorem dL_law_738 : decode cL_law 738 = .ok (.iadd, 1) := by decide +kernel
theorem dL_law_739 : decode cL_law 739 = .ok (.if_icmp .eq 5, 3) := by decide +kernel
theorem dL_law_742 : decode cL_law 742 = .ok (.iconst 0, 1) := by decide +kernel
theorem dL_law_743 : decode cL_law 743 = .ok (.ireturn, 1) := by decide +kernel
theorem dL_law_744 : decode cL_law 744 = .ok (.aload 23, 2) := by decide +kernel
theorem dL_law_746 : decode cL_law 746 = .ok (.iload 25, 2) := by decide +kernel
theorem dL_law_748 : decode cL_law 748 = .ok (.aload 6, 2) := by decide +kernel
theorem dL_law_750 : decode cL_law 750 = .ok (.iload 13, 2) := by decide +kernel
theorem dL_law_752 : decode cL_law 752 = .ok (.aload 10, 2) := by decide +kernel
theorem dL_law_754 : decode cL_law 754 = .ok (.iload 22, 2) := by decide +kernel
theorem dL_law_756 : decode cL_law 756 = .ok (.iaload, 1) := by decide +kernel
theorem dL_law_757 : decode cL_law 757 = .ok (.aload 8, 2) := by decide +kernel
theorem dL_law_759 : decode cL_law 759 = .ok (.iload 27, 2) := by decide +kernel
theorem dL_law_761 : decode cL_law 761 = .ok (.iaload, 1) := by decide +kernel
theorem dL_law_762 : decode cL_law 762 = .ok (.iload 12, 2) := by decide +kernel
theorem dL_law_764 : decode cL_law 764 = .ok (.invokestatic 10, 3) := by decide +kernel
theorem dL_law_767 : decode cL_law 767 = .ok (.iastore, 1) := by decide +kernel
theorem dL_law_768 : decode cL_law 768 = .ok (.aload 9, 2) := by decide +kernel
theorem dL_law_770 : decode cL_law 770 = .ok (.iconst 3, 1) := by decide +kernel
theorem dL_law_771 : decode cL_law 771 = .ok (.iload 14, 2) := by decide +kernel
theorem dL_law_773 : decode cL_law 773 = .ok (.imul, 1) := by decide +kernel
theorem dL_law_774 : decode cL_law 774 = .ok (.iload 25, 2) := by decide +kernel
theorem dL_law_776 : decode cL_law 776 = .ok (.iadd, 1) := by decide +kernel
theorem dL_law_777 : decode cL_law 777 = .ok (.aload 23, 2) := by decide +kernel
theorem dL_law_779 : decode cL_law 779 = .ok (.iload 25, 2) := by decide +kernel
theorem dL_law_781 : decode cL_law 781 = .ok (.iaload, 1) := by decide +kernel
theorem dL_law_782 : decode cL_law 782 = .ok (.iastore, 1) := by decide +kernel
theorem dL_law_783 : decode cL_law 783 = .ok (.iload 24, 2) := by decide +kernel
theorem dL_law_785 : decode cL_law 785 = .ok (.aload 8, 2) := by decide +kernel
theorem dL_law_787 : decode cL_law 787 = .ok (.iload 27, 2) := by decide +kernel
theorem dL_law_789 : decode cL_law 789 = .ok (.iconst 1, 1) := by decide +kernel
theorem dL_law_790 : decode cL_law 790 = .ok (.iadd, 1) := by decide +kernel
theorem dL_law_791 : decode cL_law 791 = .ok (.iaload, 1) := by decide +kernel
theorem dL_law_792 : decode cL_law 792 = .ok (.aload 8, 2) := by decide +kernel
theorem dL_law_794 : decode cL_law 794 = .ok (.iload 27, 2) := by decide +kernel
theorem dL_law_796 : decode cL_law 796 = .ok (.iconst 2, 1) := by decide +kernel
theorem dL_law_797 : decode cL_law 797 = .ok (.iadd, 1) := by decide +kernel
theorem dL_law_798 : decode cL_law 798 = .ok (.iaload, 1) := by decide +kernel
theorem dL_law_799 : decode cL_law 799 = .ok (.imul, 1) := by decide +kernel
theorem dL_law_800 : decode cL_law 800 = .ok (.iadd, 1) := by decide +kernel
theorem dL_law_801 : decode cL_law 801 = .ok (.istore 24, 2) := by decide +kernel
theorem dL_law_803 : decode cL_law 803 = .ok (.iinc 25 1, 3) := by decide +kernel
theorem dL_law_806 : decode cL_law 806 = .ok (.goto (-205), 3) := by decide +kernel
theorem dL_law_809 : decode cL_law 809 = .ok (.iinc 3 3, 3) := by decide +kernel
theorem dL_law_812 : decode cL_law 812 = .ok (.iload 14, 2) := by decide +kernel
theorem dL_law_814 : decode cL_law 814 = .ok (.istore 25, 2) := by decide +kernel
theorem dL_law_816 : decode cL_law 816 = .ok (.aload 7, 2) := by decide +kernel
theorem dL_law_818 : decode cL_law 818 = .ok (.bipush 7, 2) := by decide +kernel
theorem dL_law_820 : decode cL_law 820 = .ok (.iload 25, 2) := by decide +kernel
theorem dL_law_822 : decode cL_law 822 = .ok (.imul, 1) := by decide +kernel
theorem dL_law_823 : decode cL_law 823 = .ok (.iconst 5, 1) := by decide +kernel
theorem dL_law_824 : decode cL_law 824 = .ok (.iadd, 1) := by decide +kernel
theorem dL_law_825 : decode cL_law 825 = .ok (.aload 6, 2) := by decide +kernel
theorem dL_law_827 : decode cL_law 827 = .ok (.aload 7, 2) := by decide +kernel
theorem dL_law_829 : decode cL_law 829 = .ok (.aload 8, 2) := by decide +kernel
theorem dL_law_831 : decode cL_law 831 = .ok (.iload 25, 2) := by decide +kernel
theorem dL_law_833 : decode cL_law 833 = .ok (.aload 23, 2) := by decide +kernel
theorem dL_law_835 : decode cL_law 835 = .ok (.invokestatic 16, 3) := by decide +kernel
theorem dL_law_838 : decode cL_law 838 = .ok (.iastore, 1) := by decide +kernel
theorem dL_law_839 : decode cL_law 839 = .ok (.aload 7, 2) := by decide +kernel
theorem dL_law_841 : decode cL_law 841 = .ok (.bipush 7, 2) := by decide +kernel
theorem dL_law_843 : decode cL_law 843 = .ok (.iload 25, 2) := by decide +kernel
theorem dL_law_845 : decode cL_law 845 = .ok (.imul, 1) := by decide +kernel
theorem dL_law_846 : decode cL_law 846 = .ok (.bipush 6, 2) := by decide +kernel
theorem dL_law_848 : decode cL_law 848 = .ok (.iadd, 1) := by decide +kernel
theorem dL_law_849 : decode cL_law 849 = .ok (.aload 7, 2) := by decide +kernel
theorem dL_law_851 : decode cL_law 851 = .ok (.bipush 7, 2) := by decide +kernel
theorem dL_law_853 : decode cL_law 853 = .ok (.iload 25, 2) := by decide +kernel
theorem dL_law_855 : decode cL_law 855 = .ok (.imul, 1) := by decide +kernel
theorem dL_law_856 : decode cL_law 856 = .ok (.iconst 5, 1) := by decide +kernel
theorem dL_law_857 : decode cL_law 857 = .ok (.iadd, 1) := by decide +kernel
theorem dL_law_858 : decode cL_law 858 = .ok (.iaload, 1) := by decide +kernel
theorem dL_law_859 : decode cL_law 859 = .ok (.iastore, 1) := by decide +kernel
theorem dL_law_860 : decode cL_law 860 = .ok (.aload_n 1, 1) := by decide +kernel
theorem dL_law_861 : decode cL_law 861 = .ok (.iload 22, 2) := by decide +kernel
theorem dL_law_863 : decode cL_law 863 = .ok (.invokevirtual 80, 3) := by decide +kernel
theorem dL_law_866 : decode cL_law 866 = .ok (.iload 25, 2) := by decide +kernel
theorem dL_law_868 : decode cL_law 868 = .ok (.if_icmp .eq 5, 3) := by decide +kernel
theorem dL_law_871 : decode cL_law 871 = .ok (.iconst 0, 1) := by decide +kernel
theorem dL_law_872 : decode cL_law 872 = .ok (.ireturn, 1) := by decide +kernel
theorem dL_law_873 : decode cL_law 873 = .ok (.iinc 14 1, 3) := by decide +kernel
theorem dL_law_876 : decode cL_law 876 = .ok (.iconst 0, 1) := by decide +kernel
theorem dL_law_877 : decode cL_law 877 = .ok (.istore 26, 2) := by decide +kernel
theorem dL_law_879 : decode cL_law 879 = .ok (.iload 26, 2) := by decide +kernel
theorem dL_law_881 : decode cL_law 881 = .ok (.iload 21, 2) := by decide +kernel
theorem dL_law_883 : decode cL_law 883 = .ok (.if_icmp .ge 27, 3) := by decide +kernel
theorem dL_law_886 : decode cL_law 886 = .ok (.aload_n 1, 1) := by decide +kernel
theorem dL_law_887 : decode cL_law 887 = .ok (.iload 25, 2) := by decide +kernel
theorem dL_law_889 : decode cL_law 889 = .ok (.iload 26, 2) := by decide +kernel
theorem dL_law_891 : decode cL_law 891 = .ok (.invokevirtual 83, 3) := by decide +kernel
theorem dL_law_894 : decode cL_law 894 = .ok (.aload 23, 2) := by decide +kernel
theorem dL_law_896 : decode cL_law 896 = .ok (.iload 26, 2) := by decide +kernel
theorem dL_law_898 : decode cL_law 898 = .ok (.iaload, 1) := by decide +kernel
theorem dL_law_899 : decode cL_law 899 = .ok (.if_icmp .eq 5, 3) := by decide +kernel
theorem dL_law_902 : decode cL_law 902 = .ok (.iconst 0, 1) := by decide +kernel
theorem dL_law_903 : decode cL_law 903 = .ok (.ireturn, 1) := by decide +kernel
theorem dL_law_904 : decode cL_law 904 = .ok (.iinc 26 1, 3) := by decide +kernel
theorem dL_law_907 : decode cL_law 907 = .ok (.goto (-28), 3) := by decide +kernel
theorem dL_law_910 : decode cL_law 910 = .ok (.aload_n 1, 1) := by decide +kernel
theorem dL_law_911 : decode cL_law 911 = .ok (.iload 25, 2) := by decide +kernel
theorem dL_law_913 : decode cL_law 913 = .ok (.iconst 0, 1) := by decide +kernel
theorem dL_law_914 : decode cL_law 914 = .ok (.invokevirtual 86, 3) := by decide +kernel
theorem dL_law_917 : decode cL_law 917 = .ok (.iload 22, 2) := by decide +kernel
theorem dL_law_919 : decode cL_law 919 = .ok (.if_icmp .ne 94, 3) := by decide +kernel
theorem dL_law_922 : decode cL_law 922 = .ok (.aload_n 1, 1) := by decide +kernel
theorem dL_law_923 : decode cL_law 923 = .ok (.iload 25, 2) := by decide +kernel
theorem dL_law_925 : decode cL_law 925 = .ok (.iconst 1, 1) := by decide +kernel
theorem dL_law_926 : decode cL_law 926 = .ok (.invokevirtual 86, 3) := by decide +kernel
theorem dL_law_929 : decode cL_law 929 = .ok (.iload 12, 2) := by decide +kernel
theorem dL_law_931 : decode cL_law 931 = .ok (.if_icmp .ne 82, 3) := by decide +kernel
theorem dL_law_934 : decode cL_law 934 = .ok (.aload_n 1, 1) := by decide +kernel
theorem dL_law_935 : decode cL_law 935 = .ok (.iload 25, 2) := by decide +kernel
theorem dL_law_937 : decode cL_law 937 = .ok (.iconst 2, 1) := by decide +kernel
theorem dL_law_938 : decode cL_law 938 = .ok (.invokevirtual 86, 3) := by decide +kernel
theorem dL_law_941 : decode cL_law 941 = .ok (.iload 21, 2) := by decide +kernel
theorem dL_law_943 : decode cL_law 943 = .ok (.if_icmp .ne 70, 3) := by decide +kernel
theorem dL_law_946 : decode cL_law 946 = .ok (.aload_n 1, 1) := by decide +kernel
theorem dL_law_947 : decode cL_law 947 = .ok (.iload 25, 2) := by decide +kernel
theorem dL_law_949 : decode cL_law 949 = .ok (.iconst 3, 1) := by decide +kernel
theorem dL_law_950 : decode cL_law 950 = .ok (.invokevirtual 86, 3) := by decide +kernel
theorem dL_law_953 : decode cL_law 953 = .ok (.iload 24, 2) := by decide +kernel
theorem dL_law_955 : decode cL_law 955 = .ok (.if_icmp .ne 58, 3) := by decide +kernel
theorem dL_law_958 : decode cL_law 958 = .ok (.aload_n 1, 1) := by decide +kernel
theorem dL_law_959 : decode cL_law 959 = .ok (.iload 25, 2) := by decide +kernel
theorem dL_law_961 : decode cL_law 961 = .ok (.iconst 4, 1) := by decide +kernel
theorem dL_law_962 : decode cL_law 962 = .ok (.invokevirtual 86, 3) := by decide +kernel
theorem dL_law_965 : decode cL_law 965 = .ok (.aload 7, 2) := by decide +kernel
theorem dL_law_967 : decode cL_law 967 = .ok (.bipush 7, 2) := by decide +kernel
theorem dL_law_969 : decode cL_law 969 = .ok (.iload 25, 2) := by decide +kernel
theorem dL_law_971 : decode cL_law 971 = .ok (.imul, 1) := by decide +kernel
theorem dL_law_972 : decode cL_law 972 = .ok (.iconst 5, 1) := by decide +kernel
theorem dL_law_973 : decode cL_law 973 = .ok (.iadd, 1) := by decide +kernel
theorem dL_law_974 : decode cL_law 974 = .ok (.iaload, 1) := by decide +kernel
theorem dL_law_975 : decode cL_law 975 = .ok (.if_icmp .ne 38, 3) := by decide +kernel
theorem dL_law_978 : decode cL_law 978 = .ok (.aload_n 1, 1) := by decide +kernel
theorem dL_law_979 : decode cL_law 979 = .ok (.iload 25, 2) := by decide +kernel
theorem dL_law_981 : decode cL_law 981 = .ok (.bipush 6, 2) := by decide +kernel
theorem dL_law_983 : decode cL_law 983 = .ok (.invokevirtual 86, 3) := by decide +kernel
theorem dL_law_986 : decode cL_law 986 = .ok (.aload 10, 2) := by decide +kernel
theorem dL_law_988 : decode cL_law 988 = .ok (.iload 22, 2) := by decide +kernel
theorem dL_law_990 : decode cL_law 990 = .ok (.iaload, 1) := by decide +kernel
theorem dL_law_991 : decode cL_law 991 = .ok (.if_icmp .ne 22, 3) := by decide +kernel
theorem dL_law_994 : decode cL_law 994 = .ok (.aload_n 1, 1) := by decide +kernel
theorem dL_law_995 : decode cL_law 995 = .ok (.iload 25, 2) := by decide +kernel
theorem dL_law_997 : decode cL_law 997 = .ok (.bipush 7, 2) := by decide +kernel
theorem dL_law_999 : decode cL_law 999 = .ok (.invokevirtual 86, 3) := by decide +kernel
theorem dL_law_1002 : decode cL_law 1002 = .ok (.aload 11, 2) := by decide +kernel
theorem dL_law_1004 : decode cL_law 1004 = .ok (.aload 10, 2) := by decide +kernel
theorem dL_law_1006 : decode cL_law 1006 = .ok (.iload 22, 2) := by decide +kernel
theorem dL_law_1008 : decode cL_law 1008 = .ok (.iaload, 1) := by decide +kernel
theorem dL_law_1009 : decode cL_law 1009 = .ok (.iaload, 1) := by decide +kernel
theorem dL_law_1010 : decode cL_law 1010 = .ok (.if_icmp .eq 5, 3) := by decide +kernel
theorem dL_law_1013 : decode cL_law 1013 = .ok (.iconst 0, 1) := by decide +kernel
theorem dL_law_1014 : decode cL_law 1014 = .ok (.ireturn, 1) := by decide +kernel
theorem dL_law_1015 : decode cL_law 1015 = .ok (.aload_n 1, 1) := by decide +kernel
theorem dL_law_1016 : decode cL_law 1016 = .ok (.iload 25, 2) := by decide +kernel
theorem dL_law_1018 : decode cL_law 1018 = .ok (.aload_n 1, 1) := by decide +kernel
theorem dL_law_1019 : decode cL_law 1019 = .ok (.iload 25, 2) := by decide +kernel
theorem dL_law_1021 : decode cL_law 1021 = .ok (.iconst 0, 1) := by decide +kernel
theorem dL_law_1022 : decode cL_law 1022 = .ok (.iconst 0, 1) := by decide +kernel
theorem dL_law_1023 : decode cL_law 1023 = .ok (.iload 25, 2) := by decide +kernel
theorem dL_law_1025 : decode cL_law 1025 = .ok (.invokestatic 89, 3) := by decide +kernel
theorem dL_law_1028 : decode cL_law 1028 = .ok (.bipush 58, 2) := by decide +kernel
theorem dL_law_1030 : decode cL_law 1030 = .ok (.invokestatic 93, 3) := by decide +kernel
theorem dL_law_1033 : decode cL_law 1033 = .ok (.istore 26, 2) := by decide +kernel
theorem dL_law_1035 : decode cL_law 1035 = .ok (.iconst 0, 1) := by decide +kernel
theorem dL_law_1036 : decode cL_law 1036 = .ok (.istore 27, 2) := by decide +kernel
theorem dL_law_1038 : decode cL_law 1038 = .ok (.iload 27, 2) := by decide +kernel
theorem dL_law_1040 : decode cL_law 1040 = .ok (.iload 21, 2) := by decide +kernel
theorem dL_law_1042 : decode cL_law 1042 = .ok (.if_icmp .ge 170, 3) := by decide +kernel
theorem dL_law_1045 : decode cL_law 1045 = .ok (.bipush 9, 2) := by decide +kernel
theorem dL_law_1047 : decode cL_law 1047 = .ok (.iload 25, 2) := by decide +kernel
theorem dL_law_1049 : decode cL_law 1049 = .ok (.imul, 1) := by decide +kernel
theorem dL_law_1050 : decode cL_law 1050 = .ok (.iconst 3, 1) := by decide +kernel
theorem dL_law_1051 : decode cL_law 1051 = .ok (.iload 27, 2) := by decide +kernel
theorem dL_law_1053 : decode cL_law 1053 = .ok (.imul, 1) := by decide +kernel
theorem dL_law_1054 : decode cL_law 1054 = .ok (.iadd, 1) := by decide +kernel
theorem dL_law_1055 : decode cL_law 1055 = .ok (.istore 28, 2) := by decide +kernel
theorem dL_law_1057 : decode cL_law 1057 = .ok (.aload 8, 2) := by decide +kernel
theorem dL_law_1059 : decode cL_law 1059 = .ok (.iload 28, 2) := by decide +kernel
theorem dL_law_1061 : decode cL_law 1061 = .ok (.iconst 1, 1) := by decide +kernel
theorem dL_law_1062 : decode cL_law 1062 = .ok (.iadd, 1) := by decide +kernel
theorem dL_law_1063 : decode cL_law 1063 = .ok (.iaload, 1) := by decide +kernel
theorem dL_law_1064 : decode cL_law 1064 = .ok (.aload 8, 2) := by decide +kernel
theorem dL_law_1066 : decode cL_law 1066 = .ok (.iload 28, 2) := by decide +kernel
theorem dL_law_1068 : decode cL_law 1068 = .ok (.iconst 2, 1) := by decide +kernel
theorem dL_law_1069 : decode cL_law 1069 = .ok (.iadd, 1) := by decide +kernel
theorem dL_law_1070 : decode cL_law 1070 = .ok (.iaload, 1) := by decide +kernel
theorem dL_law_1071 : decode cL_law 1071 = .ok (.imul, 1) := by decide +kernel
theorem dL_law_1072 : decode cL_law 1072 = .ok (.istore 29, 2) := by decide +kernel
theorem dL_law_1074 : decode cL_law 1074 = .ok (.iload 29, 2) := by decide +kernel
theorem dL_law_1076 : decode cL_law 1076 = .ok (.aload 23, 2) := by decide +kernel
theorem dL_law_1078 : decode cL_law 1078 = .ok (.iload 27, 2) := by decide +kernel
theorem dL_law_1080 : decode cL_law 1080 = .ok (.iaload, 1) := by decide +kernel
theorem dL_law_1081 : decode cL_law 1081 = .ok (.ifCond .ge 7, 3) := by decide +kernel
theorem dL_law_1084 : decode cL_law 1084 = .ok (.iconst 0, 1) := by decide +kernel
theorem dL_law_1085 : decode cL_law 1085 = .ok (.goto 15, 3) := by decide +kernel
theorem dL_law_1088 : decode cL_law 1088 = .ok (.aload 6, 2) := by decide +kernel
theorem dL_law_1090 : decode cL_law 1090 = .ok (.iconst 4, 1) := by decide +kernel
theorem dL_law_1091 : decode cL_law 1091 = .ok (.aload 23, 2) := by decide +kernel
theorem dL_law_1093 : decode cL_law 1093 = .ok (.iload 27, 2) := by decide +kernel
theorem dL_law_1095 : decode cL_law 1095 = .ok (.iaload, 1) := by decide +kernel
theorem dL_law_1096 : decode cL_law 1096 = .ok (.imul, 1) := by decide +kernel
theorem dL_law_1097 : decode cL_law 1097 = .ok (.iconst 2, 1) := by decide +kernel
theorem dL_law_1098 : decode cL_law 1098 = .ok (.iadd, 1) := by decide +kernel
theorem dL_law_1099 : decode cL_law 1099 = .ok (.iaload, 1) := by decide +kernel
theorem dL_law_1100 : decode cL_law 1100 = .ok (.imul, 1) := by decide +kernel
theorem dL_law_1101 : decode cL_law 1101 = .ok (.bipush 50, 2) := by decide +kernel
theorem dL_law_1103 : decode cL_law 1103 = .ok (.iadd, 1) := by decide +kernel
theorem dL_law_1104 : decode cL_law 1104 = .ok (.bipush 100, 2) := by decide +kernel
theorem dL_law_1106 : decode cL_law 1106 = .ok (.idiv, 1) := by decide +kernel
theorem dL_law_1107 : decode cL_law 1107 = .ok (.istore 30, 2) := by decide +kernel
theorem dL_law_1109 : decode cL_law 1109 = .ok (.aload_n 1, 1) := by decide +kernel
theorem dL_law_1110 : decode cL_law 1110 = .ok (.iload 25, 2) := by decide +kernel
theorem dL_law_1112 : decode cL_law 1112 = .ok (.iload 26, 2) := by decide +kernel
theorem dL_law_1114 : decode cL_law 1114 = .ok (.iconst 3, 1) := by decide +kernel
theorem dL_law_1115 : decode cL_law 1115 = .ok (.iload 27, 2) := by decide +kernel
theorem dL_law_1117 : decode cL_law 1117 = .ok (.iconst 1, 1) := by decide +kernel
theorem dL_law_1118 : decode cL_law 1118 = .ok (.iadd, 1) := by decide +kernel
theorem dL_law_1119 : decode cL_law 1119 = .ok (.invokestatic 89, 3) := by decide +kernel
theorem dL_law_1122 : decode cL_law 1122 = .ok (.istore 26, 2) := by decide +kernel
theorem dL_law_1124 : decode cL_law 1124 = .ok (.iload 29, 2) := by decide +kernel
theorem dL_law_1126 : decode cL_law 1126 = .ok (.iload 30, 2) := by decide +kernel
theorem dL_law_1128 : decode cL_law 1128 = .ok (.iload_n 2, 1) := by decide +kernel
theorem dL_law_1129 : decode cL_law 1129 = .ok (.iadd, 1) := by decide +kernel
theorem dL_law_1130 : decode cL_law 1130 = .ok (.if_icmp .le 30, 3) := by decide +kernel
theorem dL_law_1133 : decode cL_law 1133 = .ok (.aload_n 1, 1) := by decide +kernel
theorem dL_law_1134 : decode cL_law 1134 = .ok (.iload 25, 2) := by decide +kernel
theorem dL_law_1136 : decode cL_law 1136 = .ok (.aload_n 1, 1) := by decide +kernel
theorem dL_law_1137 : decode cL_law 1137 = .ok (.iload 25, 2) := by decide +kernel
theorem dL_law_1139 : decode cL_law 1139 = .ok (.iload 26, 2) := by decide +kernel
theorem dL_law_1141 : decode cL_law 1141 = .ok (.bipush 65, 2) := by decide +kernel
theorem dL_law_1143 : decode cL_law 1143 = .ok (.invokestatic 93, 3) := by decide +kernel
theorem dL_law_1146 : decode cL_law 1146 = .ok (.iconst 0, 1) := by decide +kernel
theorem dL_law_1147 : decode cL_law 1147 = .ok (.aload 8, 2) := by decide +kernel
theorem dL_law_1149 : decode cL_law 1149 = .ok (.iload 28, 2) := by decide +kernel
theorem dL_law_1151 : decode cL_law 1151 = .ok (.iaload, 1) := by decide +kernel
theorem dL_law_1152 : decode cL_law 1152 = .ok (.invokestatic 89, 3) := by decide +kernel
theorem dL_law_1155 : decode cL_law 1155 = .ok (.istore 26, 2) := by decide +kernel
theorem dL_law_1157 : decode cL_law 1157 = .ok (.goto 37, 3) := by decide +kernel
theorem dL_law_1160 : decode cL_law 1160 = .ok (.aload_n 1, 1) := by decide +kernel
theorem dL_law_1161 : decode cL_law 1161 = .ok (.iload 25, 2) := by decide +kernel
theorem dL_law_1163 : decode cL_law 1163 = .ok (.aload_n 1, 1) := by decide +kernel
theorem dL_law_1164 : decode cL_law 1164 = .ok (.iload 25, 2) := by decide +kernel
theorem dL_law_1166 : decode cL_law 1166 = .ok (.aload_n 1, 1) := by decide +kernel
theorem dL_law_1167 : decode cL_law 1167 = .ok (.iload 25, 2) := by decide +kernel
theorem dL_law_1169 : decode cL_law 1169 = .ok (.iload 26, 2) := by decide +kernel
theorem dL_law_1171 : decode cL_law 1171 = .ok (.bipush 66, 2) := by decide +kernel
theorem dL_law_1173 : decode cL_law 1173 = .ok (.invokestatic 93, 3) := by decide +kernel
theorem dL_law_1176 : decode cL_law 1176 = .ok (.bipush 42, 2) := by decide +kernel
theorem dL_law_1178 : decode cL_law 1178 = .ok (.invokestatic 93, 3) := by decide +kernel
theorem dL_law_1181 : decode cL_law 1181 = .ok (.iconst 0, 1) := by decide +kernel
theorem dL_law_1182 : decode cL_law 1182 = .ok (.aload 8, 2) := by decide +kernel
theorem dL_law_1184 : decode cL_law 1184 = .ok (.iload 28, 2) := by decide +kernel
theorem dL_law_1186 : decode cL_law 1186 = .ok (.iconst 1, 1) := by decide +kernel
theorem dL_law_1187 : decode cL_law 1187 = .ok (.iadd, 1) := by decide +kernel
theorem dL_law_1188 : decode cL_law 1188 = .ok (.iaload, 1) := by decide +kernel
theorem dL_law_1189 : decode cL_law 1189 = .ok (.invokestatic 89, 3) := by decide +kernel
theorem dL_law_1192 : decode cL_law 1192 = .ok (.istore 26, 2) := by decide +kernel
theorem dL_law_1194 : decode cL_law 1194 = .ok (.aload_n 1, 1) := by decide +kernel
theorem dL_law_1195 : decode cL_law 1195 = .ok (.iload 25, 2) := by decide +kernel
theorem dL_law_1197 : decode cL_law 1197 = .ok (.iload 26, 2) := by decide +kernel
theorem dL_law_1199 : decode cL_law 1199 = .ok (.bipush 59, 2) := by decide +kernel
theorem dL_law_1201 : decode cL_law 1201 = .ok (.invokestatic 93, 3) := by decide +kernel
theorem dL_law_1204 : decode cL_law 1204 = .ok (.istore 26, 2) := by decide +kernel
theorem dL_law_1206 : decode cL_law 1206 = .ok (.iinc 27 1, 3) := by decide +kernel
theorem dL_law_1209 : decode cL_law 1209 = .ok (.goto (-171), 3) := by decide +kernel
theorem dL_law_1212 : decode cL_law 1212 = .ok (.iload 24, 2) := by decide +kernel
theorem dL_law_1214 : decode cL_law 1214 = .ok (.aload 7, 2) := by decide +kernel
theorem dL_law_1216 : decode cL_law 1216 = .ok (.bipush 7, 2) := by decide +kernel
theorem dL_law_1218 : decode cL_law 1218 = .ok (.iload 25, 2) := by decide +kernel
theorem dL_law_1220 : decode cL_law 1220 = .ok (.imul, 1) := by decide +kernel
theorem dL_law_1221 : decode cL_law 1221 = .ok (.iconst 5, 1) := by decide +kernel
theorem dL_law_1222 : decode cL_law 1222 = .ok (.iadd, 1) := by decide +kernel
theorem dL_law_1223 : decode cL_law 1223 = .ok (.iaload, 1) := by decide +kernel
theorem dL_law_1224 : decode cL_law 1224 = .ok (.if_icmp .ne 15, 3) := by decide +kernel
theorem dL_law_1227 : decode cL_law 1227 = .ok (.aload_n 1, 1) := by decide +kernel
theorem dL_law_1228 : decode cL_law 1228 = .ok (.iload 25, 2) := by decide +kernel
theorem dL_law_1230 : decode cL_law 1230 = .ok (.iload 26, 2) := by decide +kernel
theorem dL_law_1232 : decode cL_law 1232 = .ok (.bipush 33, 2) := by decide +kernel
theorem dL_law_1234 : decode cL_law 1234 = .ok (.invokestatic 93, 3) := by decide +kernel
theorem dL_law_1237 : decode cL_law 1237 = .ok (.istore 26, 2) := by decide +kernel
theorem dL_law_1239 : decode cL_law 1239 = .ok (.aload_n 1, 1) := by decide +kernel
theorem dL_law_1240 : decode cL_law 1240 = .ok (.iload 25, 2) := by decide +kernel
theorem dL_law_1242 : decode cL_law 1242 = .ok (.iload 26, 2) := by decide +kernel
theorem dL_law_1244 : decode cL_law 1244 = .ok (.bipush 9, 2) := by decide +kernel
theorem dL_law_1246 : decode cL_law 1246 = .ok (.iload 24, 2) := by decide +kernel
theorem dL_law_1248 : decode cL_law 1248 = .ok (.aload 7, 2) := by decide +kernel
theorem dL_law_1250 : decode cL_law 1250 = .ok (.bipush 7, 2) := by decide +kernel
theorem dL_law_1252 : decode cL_law 1252 = .ok (.iload 25, 2) := by decide +kernel
theorem dL_law_1254 : decode cL_law 1254 = .ok (.imul, 1) := by decide +kernel
theorem dL_law_1255 : decode cL_law 1255 = .ok (.iconst 5, 1) := by decide +kernel
theorem dL_law_1256 : decode cL_law 1256 = .ok (.iadd, 1) := by decide +kernel
theorem dL_law_1257 : decode cL_law 1257 = .ok (.iaload, 1) := by decide +kernel
theorem dL_law_1258 : decode cL_law 1258 = .ok (.iadd, 1) := by decide +kernel
theorem dL_law_1259 : decode cL_law 1259 = .ok (.invokestatic 89, 3) := by decide +kernel
theorem dL_law_1262 : decode cL_law 1262 = .ok (.istore 26, 2) := by decide +kernel
theorem dL_law_1264 : decode cL_law 1264 = .ok (.iload 26, 2) := by decide +kernel
theorem dL_law_1266 : decode cL_law 1266 = .ok (.ifCond .lt 47, 3) := by decide +kernel
theorem dL_law_1269 : decode cL_law 1269 = .ok (.aload_n 1, 1) := by decide +kernel
theorem dL_law_1270 : decode cL_law 1270 = .ok (.iload 25, 2) := by decide +kernel
theorem dL_law_1272 : decode cL_law 1272 = .ok (.iconst 0, 1) := by decide +kernel
theorem dL_law_1273 : decode cL_law 1273 = .ok (.invokevirtual 97, 3) := by decide +kernel
theorem dL_law_1276 : decode cL_law 1276 = .ok (.iload 26, 2) := by decide +kernel
theorem dL_law_1278 : decode cL_law 1278 = .ok (.if_icmp .ne 35, 3) := by decide +kernel
theorem dL_law_1281 : decode cL_law 1281 = .ok (.aload_n 1, 1) := by decide +kernel
theorem dL_law_1282 : decode cL_law 1282 = .ok (.iload 25, 2) := by decide +kernel
theorem dL_law_1284 : decode cL_law 1284 = .ok (.iconst 0, 1) := by decide +kernel
theorem dL_law_1285 : decode cL_law 1285 = .ok (.iload 26, 2) := by decide +kernel
theorem dL_law_1287 : decode cL_law 1287 = .ok (.invokevirtual 28, 3) := by decide +kernel
theorem dL_law_1290 : decode cL_law 1290 = .ok (.bipush 32, 2) := by decide +kernel
theorem dL_law_1292 : decode cL_law 1292 = .ok (.if_icmp .ne 21, 3) := by decide +kernel
theorem dL_law_1295 : decode cL_law 1295 = .ok (.aload_n 1, 1) := by decide +kernel
theorem dL_law_1296 : decode cL_law 1296 = .ok (.iload 25, 2) := by decide +kernel
theorem dL_law_1298 : decode cL_law 1298 = .ok (.iconst 0, 1) := by decide +kernel
theorem dL_law_1299 : decode cL_law 1299 = .ok (.iload 26, 2) := by decide +kernel
theorem dL_law_1301 : decode cL_law 1301 = .ok (.sipush 500, 3) := by decide +kernel
theorem dL_law_1304 : decode cL_law 1304 = .ok (.iadd, 1) := by decide +kernel
theorem dL_law_1305 : decode cL_law 1305 = .ok (.invokevirtual 28, 3) := by decide +kernel
theorem dL_law_1308 : decode cL_law 1308 = .ok (.bipush 32, 2) := by decide +kernel
theorem dL_law_1310 : decode cL_law 1310 = .ok (.if_icmp .eq 5, 3) := by decide +kernel
theorem dL_law_1313 : decode cL_law 1313 = .ok (.iconst 0, 1) := by decide +kernel
theorem dL_law_1314 : decode cL_law 1314 = .ok (.ireturn, 1) := by decide +kernel
theorem dL_law_1315 : decode cL_law 1315 = .ok (.goto 163, 3) := by decide +kernel
theorem dL_law_1318 : decode cL_law 1318 = .ok (.iconst 0, 1) := by decide +kernel
theorem dL_law_1319 : decode cL_law 1319 = .ok (.istore 21, 2) := by decide +kernel
theorem dL_law_1321 : decode cL_law 1321 = .ok (.iconst 0, 1) := by decide +kernel
theorem dL_law_1322 : decode cL_law 1322 = .ok (.istore 22, 2) := by decide +kernel
theorem dL_law_1324 : decode cL_law 1324 = .ok (.iload 22, 2) := by decide +kernel
theorem dL_law_1326 : decode cL_law 1326 = .ok (.iload 14, 2) := by decide +kernel
theorem dL_law_1328 : decode cL_law 1328 = .ok (.if_icmp .ge 97, 3) := by decide +kernel
theorem dL_law_1331 : decode cL_law 1331 = .ok (.aload 6, 2) := by decide +kernel
theorem dL_law_1333 : decode cL_law 1333 = .ok (.iload 13, 2) := by decide +kernel
theorem dL_law_1335 : decode cL_law 1335 = .ok (.aload 7, 2) := by decide +kernel
theorem dL_law_1337 : decode cL_law 1337 = .ok (.aload 8, 2) := by decide +kernel
theorem dL_law_1339 : decode cL_law 1339 = .ok (.iload 22, 2) := by decide +kernel
theorem dL_law_1341 : decode cL_law 1341 = .ok (.invokestatic 100, 3) := by decide +kernel
theorem dL_law_1344 : decode cL_law 1344 = .ok (.istore 23, 2) := by decide +kernel
theorem dL_law_1346 : decode cL_law 1346 = .ok (.aload_n 1, 1) := by decide +kernel
theorem dL_law_1347 : decode cL_law 1347 = .ok (.iload 22, 2) := by decide +kernel
theorem dL_law_1349 : decode cL_law 1349 = .ok (.invokevirtual 104, 3) := by decide +kernel
theorem dL_law_1352 : decode cL_law 1352 = .ok (.iload 23, 2) := by decide +kernel
theorem dL_law_1354 : decode cL_law 1354 = .ok (.if_icmp .eq 5, 3) := by decide +kernel
theorem dL_law_1357 : decode cL_law 1357 = .ok (.iconst 0, 1) := by decide +kernel
theorem dL_law_1358 : decode cL_law 1358 = .ok (.ireturn, 1) := by decide +kernel
theorem dL_law_1359 : decode cL_law 1359 = .ok (.aload 7, 2) := by decide +kernel
theorem dL_law_1361 : decode cL_law 1361 = .ok (.bipush 7, 2) := by decide +kernel
theorem dL_law_1363 : decode cL_law 1363 = .ok (.iload 22, 2) := by decide +kernel
theorem dL_law_1365 : decode cL_law 1365 = .ok (.imul, 1) := by decide +kernel
theorem dL_law_1366 : decode cL_law 1366 = .ok (.iconst 3, 1) := by decide +kernel
theorem dL_law_1367 : decode cL_law 1367 = .ok (.iadd, 1) := by decide +kernel
theorem dL_law_1368 : decode cL_law 1368 = .ok (.iaload, 1) := by decide +kernel
theorem dL_law_1369 : decode cL_law 1369 = .ok (.iload 20, 2) := by decide +kernel
theorem dL_law_1371 : decode cL_law 1371 = .ok (.if_icmp .ne 48, 3) := by decide +kernel
theorem dL_law_1374 : decode cL_law 1374 = .ok (.iload 23, 2) := by decide +kernel
theorem dL_law_1376 : decode cL_law 1376 = .ok (.aload 7, 2) := by decide +kernel
theorem dL_law_1378 : decode cL_law 1378 = .ok (.bipush 7, 2) := by decide +kernel
theorem dL_law_1380 : decode cL_law 1380 = .ok (.iload 22, 2) := by decide +kernel
theorem dL_law_1382 : decode cL_law 1382 = .ok (.imul, 1) := by decide +kernel
theorem dL_law_1383 : decode cL_law 1383 = .ok (.bipush 6, 2) := by decide +kernel
theorem dL_law_1385 : decode cL_law 1385 = .ok (.iadd, 1) := by decide +kernel
theorem dL_law_1386 : decode cL_law 1386 = .ok (.iaload, 1) := by decide +kernel
theorem dL_law_1387 : decode cL_law 1387 = .ok (.if_icmp .ne 6, 3) := by decide +kernel
theorem dL_law_1390 : decode cL_law 1390 = .ok (.goto 29, 3) := by decide +kernel
theorem dL_law_1393 : decode cL_law 1393 = .ok (.iinc 21 1, 3) := by decide +kernel
theorem dL_law_1396 : decode cL_law 1396 = .ok (.iload 15, 2) := by decide +kernel
theorem dL_law_1398 : decode cL_law 1398 = .ok (.iload 21, 2) := by decide +kernel
theorem dL_law_1400 : decode cL_law 1400 = .ok (.iadd, 1) := by decide +kernel
theorem dL_law_1401 : decode cL_law 1401 = .ok (.bipush 40, 2) := by decide +kernel
theorem dL_law_1403 : decode cL_law 1403 = .ok (.if_icmp .gt 16, 3) := by decide +kernel
theorem dL_law_1406 : decode cL_law 1406 = .ok (.aload 7, 2) := by decide +kernel
theorem dL_law_1408 : decode cL_law 1408 = .ok (.bipush 7, 2) := by decide +kernel
theorem dL_law_1410 : decode cL_law 1410 = .ok (.iload 22, 2) := by decide +kernel
theorem dL_law_1412 : decode cL_law 1412 = .ok (.imul, 1) := by decide +kernel
theorem dL_law_1413 : decode cL_law 1413 = .ok (.bipush 6, 2) := by decide +kernel
theorem dL_law_1415 : decode cL_law 1415 = .ok (.iadd, 1) := by decide +kernel
theorem dL_law_1416 : decode cL_law 1416 = .ok (.iload 23, 2) := by decide +kernel
theorem dL_law_1418 : decode cL_law 1418 = .ok (.iastore, 1) := by decide +kernel
theorem dL_law_1419 : decode cL_law 1419 = .ok (.iinc 22 1, 3) := by decide +kernel
theorem dL_law_1422 : decode cL_law 1422 = .ok (.goto (-98), 3) := by decide +kernel
theorem dL_law_1425 : decode cL_law 1425 = .ok (.iload 15, 2) := by decide +kernel
theorem dL_law_1427 : decode cL_law 1427 = .ok (.iload 21, 2) := by decide +kernel
theorem dL_law_1429 : decode cL_law 1429 = .ok (.iadd, 1) := by decide +kernel
theorem dL_law_1430 : decode cL_law 1430 = .ok (.bipush 40, 2) := by decide +kernel
theorem dL_law_1432 : decode cL_law 1432 = .ok (.if_icmp .le 11, 3) := by decide +kernel
theorem dL_law_1435 : decode cL_law 1435 = .ok (.bipush 40, 2) := by decide +kernel
theorem dL_law_1437 : decode cL_law 1437 = .ok (.iload 15, 2) := by decide +kernel
theorem dL_law_1439 : decode cL_law 1439 = .ok (.isub, 1) := by decide +kernel
theorem dL_law_1440 : decode cL_law 1440 = .ok (.goto 5, 3) := by decide +kernel
theorem dL_law_1443 : decode cL_law 1443 = .ok (.iload 21, 2) := by decide +kernel
theorem dL_law_1445 : decode cL_law 1445 = .ok (.istore 21, 2) := by decide +kernel
theorem dL_law_1447 : decode cL_law 1447 = .ok (.aload_n 1, 1) := by decide +kernel
theorem dL_law_1448 : decode cL_law 1448 = .ok (.iload 20, 2) := by decide +kernel
theorem dL_law_1450 : decode cL_law 1450 = .ok (.invokevirtual 107, 3) := by decide +kernel
theorem dL_law_1453 : decode cL_law 1453 = .ok (.iload 21, 2) := by decide +kernel
theorem dL_law_1455 : decode cL_law 1455 = .ok (.if_icmp .eq 5, 3) := by decide +kernel
theorem dL_law_1458 : decode cL_law 1458 = .ok (.iconst 0, 1) := by decide +kernel
theorem dL_law_1459 : decode cL_law 1459 = .ok (.ireturn, 1) := by decide +kernel
theorem dL_law_1460 : decode cL_law 1460 = .ok (.iload 15, 2) := by decide +kernel
theorem dL_law_1462 : decode cL_law 1462 = .ok (.iload 21, 2) := by decide +kernel
theorem dL_law_1464 : decode cL_law 1464 = .ok (.iadd, 1) := by decide +kernel
theorem dL_law_1465 : decode cL_law 1465 = .ok (.istore 15, 2) := by decide +kernel
theorem dL_law_1467 : decode cL_law 1467 = .ok (.aload_n 1, 1) := by decide +kernel
theorem dL_law_1468 : decode cL_law 1468 = .ok (.invokevirtual 110, 3) := by decide +kernel
theorem dL_law_1471 : decode cL_law 1471 = .ok (.iload 15, 2) := by decide +kernel
theorem dL_law_1473 : decode cL_law 1473 = .ok (.if_icmp .eq 5, 3) := by decide +kernel
theorem dL_law_1476 : decode cL_law 1476 = .ok (.iconst 0, 1) := by decide +kernel
theorem dL_law_1477 : decode cL_law 1477 = .ok (.ireturn, 1) := by decide +kernel
theorem dL_law_1478 : decode cL_law 1478 = .ok (.iconst 4, 1) := by decide +kernel
theorem dL_law_1479 : decode cL_law 1479 = .ok (.newarray .int, 2) := by decide +kernel
theorem dL_law_1481 : decode cL_law 1481 = .ok (.astore 21, 2) := by decide +kernel
theorem dL_law_1483 : decode cL_law 1483 = .ok (.iconst 0, 1) := by decide +kernel
theorem dL_law_1484 : decode cL_law 1484 = .ok (.istore 22, 2) := by decide +kernel
theorem dL_law_1486 : decode cL_law 1486 = .ok (.iload 22, 2) := by decide +kernel
theorem dL_law_1488 : decode cL_law 1488 = .ok (.iload 14, 2) := by decide +kernel
theorem dL_law_1490 : decode cL_law 1490 = .ok (.if_icmp .ge 79, 3) := by decide +kernel
theorem dL_law_1493 : decode cL_law 1493 = .ok (.aload 21, 2) := by decide +kernel
theorem dL_law_1495 : decode cL_law 1495 = .ok (.aload 7, 2) := by decide +kernel
theorem dL_law_1497 : decode cL_law 1497 = .ok (.bipush 7, 2) := by decide +kernel
theorem dL_law_1499 : decode cL_law 1499 = .ok (.iload 22, 2) := by decide +kernel
theorem dL_law_1501 : decode cL_law 1501 = .ok (.imul, 1) := by decide +kernel
theorem dL_law_1502 : decode cL_law 1502 = .ok (.iconst 3, 1) := by decide +kernel
theorem dL_law_1503 : decode cL_law 1503 = .ok (.iadd, 1) := by decide +kernel
theorem dL_law_1504 : decode cL_law 1504 = .ok (.iaload, 1) := by decide +kernel
theorem dL_law_1505 : decode cL_law 1505 = .ok (.dup2, 1) := by decide +kernel
theorem dL_law_1506 : decode cL_law 1506 = .ok (.iaload, 1) := by decide +kernel
theorem dL_law_1507 : decode cL_law 1507 = .ok (.aload 7, 2) := by decide +kernel
theorem dL_law_1509 : decode cL_law 1509 = .ok (.bipush 7, 2) := by decide +kernel
theorem dL_law_1511 : decode cL_law 1511 = .ok (.iload 22, 2) := by decide +kernel
theorem dL_law_1513 : decode cL_law 1513 = .ok (.imul, 1) := by decide +kernel
theorem dL_law_1514 : decode cL_law 1514 = .ok (.bipush 6, 2) := by decide +kernel
theorem dL_law_1516 : decode cL_law 1516 = .ok (.iadd, 1) := by decide +kernel
theorem dL_law_1517 : decode cL_law 1517 = .ok (.iaload, 1) := by decide +kernel
theorem dL_law_1518 : decode cL_law 1518 = .ok (.iadd, 1) := by decide +kernel
theorem dL_law_1519 : decode cL_law 1519 = .ok (.iastore, 1) := by decide +kernel
theorem dL_law_1520 : decode cL_law 1520 = .ok (.aload_n 1, 1) := by decide +kernel
theorem dL_law_1521 : decode cL_law 1521 = .ok (.iload 22, 2) := by decide +kernel
theorem dL_law_1523 : decode cL_law 1523 = .ok (.iconst 4, 1) := by decide +kernel
theorem dL_law_1524 : decode cL_law 1524 = .ok (.invokevirtual 86, 3) := by decide +kernel
theorem dL_law_1527 : decode cL_law 1527 = .ok (.aload 7, 2) := by decide +kernel
theorem dL_law_1529 : decode cL_law 1529 = .ok (.bipush 7, 2) := by decide +kernel
theorem dL_law_1531 : decode cL_law 1531 = .ok (.iload 22, 2) := by decide +kernel
theorem dL_law_1533 : decode cL_law 1533 = .ok (.imul, 1) := by decide +kernel
theorem dL_law_1534 : decode cL_law 1534 = .ok (.iconst 5, 1) := by decide +kernel
theorem dL_law_1535 : decode cL_law 1535 = .ok (.iadd, 1) := by decide +kernel
theorem dL_law_1536 : decode cL_law 1536 = .ok (.iaload, 1) := by decide +kernel
theorem dL_law_1537 : decode cL_law 1537 = .ok (.if_icmp .ne 24, 3) := by decide +kernel
theorem dL_law_1540 : decode cL_law 1540 = .ok (.aload_n 1, 1) := by decide +kernel
theorem dL_law_1541 : decode cL_law 1541 = .ok (.iload 22, 2) := by decide +kernel
theorem dL_law_1543 : decode cL_law 1543 = .ok (.iconst 5, 1) := by decide +kernel
theorem dL_law_1544 : decode cL_law 1544 = .ok (.invokevirtual 86, 3) := by decide +kernel
theorem dL_law_1547 : decode cL_law 1547 = .ok (.aload 7, 2) := by decide +kernel
theorem dL_law_1549 : decode cL_law 1549 = .ok (.bipush 7, 2) := by decide +kernel
theorem dL_law_1551 : decode cL_law 1551 = .ok (.iload 22, 2) := by decide +kernel
theorem dL_law_1553 : decode cL_law 1553 = .ok (.imul, 1) := by decide +kernel
theorem dL_law_1554 : decode cL_law 1554 = .ok (.bipush 6, 2) := by decide +kernel
theorem dL_law_1556 : decode cL_law 1556 = .ok (.iadd, 1) := by decide +kernel
theorem dL_law_1557 : decode cL_law 1557 = .ok (.iaload, 1) := by decide +kernel
theorem dL_law_1558 : decode cL_law 1558 = .ok (.if_icmp .eq 5, 3) := by decide +kernel
theorem dL_law_1561 : decode cL_law 1561 = .ok (.iconst 0, 1) := by decide +kernel
theorem dL_law_1562 : decode cL_law 1562 = .ok (.ireturn, 1) := by decide +kernel
theorem dL_law_1563 : decode cL_law 1563 = .ok (.iinc 22 1, 3) := by decide +kernel
theorem dL_law_1566 : decode cL_law 1566 = .ok (.goto (-80), 3) := by decide +kernel
theorem dL_law_1569 : decode cL_law 1569 = .ok (.iconst 0, 1) := by decide +kernel
theorem dL_law_1570 : decode cL_law 1570 = .ok (.istore 22, 2) := by decide +kernel
theorem dL_law_1572 : decode cL_law 1572 = .ok (.iload 22, 2) := by decide +kernel
theorem dL_law_1574 : decode cL_law 1574 = .ok (.iconst 4, 1) := by decide +kernel
theorem dL_law_1575 : decode cL_law 1575 = .ok (.if_icmp .ge 25, 3) := by decide +kernel
theorem dL_law_1578 : decode cL_law 1578 = .ok (.aload_n 1, 1) := by decide +kernel
theorem dL_law_1579 : decode cL_law 1579 = .ok (.iload 22, 2) := by decide +kernel
theorem dL_law_1581 : decode cL_law 1581 = .ok (.invokevirtual 114, 3) := by decide +kernel
theorem dL_law_1584 : decode cL_law 1584 = .ok (.aload 21, 2) := by decide +kernel
theorem dL_law_1586 : decode cL_law 1586 = .ok (.iload 22, 2) := by decide +kernel
theorem dL_law_1588 : decode cL_law 1588 = .ok (.iaload, 1) := by decide +kernel
theorem dL_law_1589 : decode cL_law 1589 = .ok (.if_icmp .eq 5, 3) := by decide +kernel
theorem dL_law_1592 : decode cL_law 1592 = .ok (.iconst 0, 1) := by decide +kernel
theorem dL_law_1593 : decode cL_law 1593 = .ok (.ireturn, 1) := by decide +kernel
theorem dL_law_1594 : decode cL_law 1594 = .ok (.iinc 22 1, 3) := by decide +kernel
theorem dL_law_1597 : decode cL_law 1597 = .ok (.goto (-25), 3) := by decide +kernel
theorem dL_law_1600 : decode cL_law 1600 = .ok (.iconst 0, 1) := by decide +kernel
theorem dL_law_1601 : decode cL_law 1601 = .ok (.istore 22, 2) := by decide +kernel
theorem dL_law_1603 : decode cL_law 1603 = .ok (.iload 22, 2) := by decide +kernel
theorem dL_law_1605 : decode cL_law 1605 = .ok (.iconst 3, 1) := by decide +kernel
theorem dL_law_1606 : decode cL_law 1606 = .ok (.if_icmp .ge 37, 3) := by decide +kernel
theorem dL_law_1609 : decode cL_law 1609 = .ok (.aload_n 1, 1) := by decide +kernel
theorem dL_law_1610 : decode cL_law 1610 = .ok (.iload 20, 2) := by decide +kernel
theorem dL_law_1612 : decode cL_law 1612 = .ok (.iload 22, 2) := by decide +kernel
theorem dL_law_1614 : decode cL_law 1614 = .ok (.iload 12, 2) := by decide +kernel
theorem dL_law_1616 : decode cL_law 1616 = .ok (.invokevirtual 117, 3) := by decide +kernel
theorem dL_law_1619 : decode cL_law 1619 = .ok (.aload 6, 2) := by decide +kernel
theorem dL_law_1621 : decode cL_law 1621 = .ok (.iload 13, 2) := by decide +kernel
theorem dL_law_1623 : decode cL_law 1623 = .ok (.iload 20, 2) := by decide +kernel
theorem dL_law_1625 : decode cL_law 1625 = .ok (.iload 22, 2) := by decide +kernel
theorem dL_law_1627 : decode cL_law 1627 = .ok (.iload 12, 2) := by decide +kernel
theorem dL_law_1629 : decode cL_law 1629 = .ok (.invokestatic 10, 3) := by decide +kernel
theorem dL_law_1632 : decode cL_law 1632 = .ok (.if_icmp .eq 5, 3) := by decide +kernel
theorem dL_law_1635 : decode cL_law 1635 = .ok (.iconst 0, 1) := by decide +kernel
theorem dL_law_1636 : decode cL_law 1636 = .ok (.ireturn, 1) := by decide +kernel
theorem dL_law_1637 : decode cL_law 1637 = .ok (.iinc 22 1, 3) := by decide +kernel
theorem dL_law_1640 : decode cL_law 1640 = .ok (.goto (-37), 3) := by decide +kernel
theorem dL_law_1643 : decode cL_law 1643 = .ok (.iinc 16 1, 3) := by decide +kernel
theorem dL_law_1646 : decode cL_law 1646 = .ok (.goto (-1448), 3) := by decide +kernel
theorem dL_law_1649 : decode cL_law 1649 = .ok (.iconst 1, 1) := by decide +kernel
theorem dL_law_1650 : decode cL_law 1650 = .ok (.ireturn, 1) := by decide +kernel
