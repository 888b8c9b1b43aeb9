theorem dX8_putsNumber_55 : decode cX8_putsNumber 55 = .ok (.istore 7, 2) := by decide +kernel
theorem dX8_putsNumber_57 : decode cX8_putsNumber 57 = .ok (.iload 7, 2) := by decide +kernel
theorem dX8_putsNumber_59 : decode cX8_putsNumber 59 = .ok (.iload_n 2, 1) := by decide +kernel
theorem dX8_putsNumber_60 : decode cX8_putsNumber 60 = .ok (.if_icmp .ge 15, 3) := by decide +kernel
theorem dX8_putsNumber_63 : decode cX8_putsNumber 63 = .ok (.aload_n 0, 1) := by decide +kernel
theorem dX8_putsNumber_64 : decode cX8_putsNumber 64 = .ok (.bipush 32, 2) := by decide +kernel
theorem dX8_putsNumber_66 : decode cX8_putsNumber 66 = .ok (.invokevirtual 246, 3) := by decide +kernel
theorem dX8_putsNumber_69 : decode cX8_putsNumber 69 = .ok (.iinc 7 1, 3) := by decide +kernel
theorem dX8_putsNumber_72 : decode cX8_putsNumber 72 = .ok (.goto (-15), 3) := by decide +kernel
theorem dX8_putsNumber_75 : decode cX8_putsNumber 75 = .ok (.iload_n 1, 1) := by decide +kernel
theorem dX8_putsNumber_76 : decode cX8_putsNumber 76 = .ok (.ifCond .ge 9, 3) := by decide +kernel
theorem dX8_putsNumber_79 : decode cX8_putsNumber 79 = .ok (.aload_n 0, 1) := by decide +kernel
theorem dX8_putsNumber_80 : decode cX8_putsNumber 80 = .ok (.bipush 45, 2) := by decide +kernel
theorem dX8_putsNumber_82 : decode cX8_putsNumber 82 = .ok (.invokevirtual 246, 3) := by decide +kernel
theorem dX8_putsNumber_85 : decode cX8_putsNumber 85 = .ok (.iload 5, 2) := by decide +kernel
theorem dX8_putsNumber_87 : decode cX8_putsNumber 87 = .ok (.ifCond .le 27, 3) := by decide +kernel
theorem dX8_putsNumber_90 : decode cX8_putsNumber 90 = .ok (.aload_n 0, 1) := by decide +kernel
theorem dX8_putsNumber_91 : decode cX8_putsNumber 91 = .ok (.bipush 48, 2) := by decide +kernel
theorem dX8_putsNumber_93 : decode cX8_putsNumber 93 = .ok (.iload_n 3, 1) := by decide +kernel
theorem dX8_putsNumber_94 : decode cX8_putsNumber 94 = .ok (.iload 5, 2) := by decide +kernel
theorem dX8_putsNumber_96 : decode cX8_putsNumber 96 = .ok (.idiv, 1) := by decide +kernel
theorem dX8_putsNumber_97 : decode cX8_putsNumber 97 = .ok (.bipush 10, 2) := by decide +kernel
theorem dX8_putsNumber_99 : decode cX8_putsNumber 99 = .ok (.irem, 1) := by decide +kernel
theorem dX8_putsNumber_100 : decode cX8_putsNumber 100 = .ok (.iadd, 1) := by decide +kernel
theorem dX8_putsNumber_101 : decode cX8_putsNumber 101 = .ok (.invokevirtual 246, 3) := by decide +kernel
theorem dX8_putsNumber_104 : decode cX8_putsNumber 104 = .ok (.iload 5, 2) := by decide +kernel
theorem dX8_putsNumber_106 : decode cX8_putsNumber 106 = .ok (.bipush 10, 2) := by decide +kernel
theorem dX8_putsNumber_108 : decode cX8_putsNumber 108 = .ok (.idiv, 1) := by decide +kernel
theorem dX8_putsNumber_109 : decode cX8_putsNumber 109 = .ok (.istore 5, 2) := by decide +kernel
theorem dX8_putsNumber_111 : decode cX8_putsNumber 111 = .ok (.goto (-26), 3) := by decide +kernel
theorem dX8_putsNumber_114 : decode cX8_putsNumber 114 = .ok (.return_, 1) := by decide +kernel
theorem dX8_reckons_0 : decode cX8_reckons 0 = .ok (.aload_n 0, 1) := by decide +kernel
theorem dX8_reckons_1 : decode cX8_reckons 1 = .ok (.lconst 0, 1) := by decide +kernel
theorem dX8_reckons_2 : decode cX8_reckons 2 = .ok (.putfield 249, 3) := by decide +kernel
theorem dX8_reckons_5 : decode cX8_reckons 5 = .ok (.iconst 1, 1) := by decide +kernel
theorem dX8_reckons_6 : decode cX8_reckons 6 = .ok (.istore_n 3, 1) := by decide +kernel
theorem dX8_reckons_7 : decode cX8_reckons 7 = .ok (.iconst 1, 1) := by decide +kernel
theorem dX8_reckons_8 : decode cX8_reckons 8 = .ok (.istore 4, 2) := by decide +kernel
theorem dX8_reckons_10 : decode cX8_reckons 10 = .ok (.iload 4, 2) := by decide +kernel
theorem dX8_reckons_12 : decode cX8_reckons 12 = .ok (.ifCond .eq 204, 3) := by decide +kernel
theorem dX8_reckons_15 : decode cX8_reckons 15 = .ok (.lconst 0, 1) := by decide +kernel
theorem dX8_reckons_16 : decode cX8_reckons 16 = .ok (.lstore 5, 2) := by decide +kernel
theorem dX8_reckons_18 : decode cX8_reckons 18 = .ok (.aload_n 0, 1) := by decide +kernel
theorem dX8_reckons_19 : decode cX8_reckons 19 = .ok (.getfield 16, 3) := by decide +kernel
theorem dX8_reckons_22 : decode cX8_reckons 22 = .ok (.iload_n 2, 1) := by decide +kernel
theorem dX8_reckons_23 : decode cX8_reckons 23 = .ok (.aload_n 0, 1) := by decide +kernel
theorem dX8_reckons_24 : decode cX8_reckons 24 = .ok (.getfield 134, 3) := by decide +kernel
theorem dX8_reckons_27 : decode cX8_reckons 27 = .ok (.iadd, 1) := by decide +kernel
theorem dX8_reckons_28 : decode cX8_reckons 28 = .ok (.iaload, 1) := by decide +kernel
theorem dX8_reckons_29 : decode cX8_reckons 29 = .ok (.invokestatic 141, 3) := by decide +kernel
theorem dX8_reckons_32 : decode cX8_reckons 32 = .ok (.ifCond .eq 58, 3) := by decide +kernel
theorem dX8_reckons_35 : decode cX8_reckons 35 = .ok (.aload_n 0, 1) := by decide +kernel
theorem dX8_reckons_36 : decode cX8_reckons 36 = .ok (.getfield 16, 3) := by decide +kernel
theorem dX8_reckons_39 : decode cX8_reckons 39 = .ok (.iload_n 2, 1) := by decide +kernel
theorem dX8_reckons_40 : decode cX8_reckons 40 = .ok (.aload_n 0, 1) := by decide +kernel
theorem dX8_reckons_41 : decode cX8_reckons 41 = .ok (.getfield 134, 3) := by decide +kernel
theorem dX8_reckons_44 : decode cX8_reckons 44 = .ok (.iadd, 1) := by decide +kernel
theorem dX8_reckons_45 : decode cX8_reckons 45 = .ok (.iaload, 1) := by decide +kernel
theorem dX8_reckons_46 : decode cX8_reckons 46 = .ok (.invokestatic 141, 3) := by decide +kernel
theorem dX8_reckons_49 : decode cX8_reckons 49 = .ok (.ifCond .eq 70, 3) := by decide +kernel
theorem dX8_reckons_52 : decode cX8_reckons 52 = .ok (.ldc2_w 253, 3) := by decide +kernel
theorem dX8_reckons_55 : decode cX8_reckons 55 = .ok (.lload 5, 2) := by decide +kernel
theorem dX8_reckons_57 : decode cX8_reckons 57 = .ok (.lmul, 1) := by decide +kernel
theorem dX8_reckons_58 : decode cX8_reckons 58 = .ok (.aload_n 0, 1) := by decide +kernel
theorem dX8_reckons_59 : decode cX8_reckons 59 = .ok (.getfield 16, 3) := by decide +kernel
theorem dX8_reckons_62 : decode cX8_reckons 62 = .ok (.iload_n 2, 1) := by decide +kernel
theorem dX8_reckons_63 : decode cX8_reckons 63 = .ok (.aload_n 0, 1) := by decide +kernel
theorem dX8_reckons_64 : decode cX8_reckons 64 = .ok (.getfield 134, 3) := by decide +kernel
theorem dX8_reckons_67 : decode cX8_reckons 67 = .ok (.iadd, 1) := by decide +kernel
theorem dX8_reckons_68 : decode cX8_reckons 68 = .ok (.iaload, 1) := by decide +kernel
theorem dX8_reckons_69 : decode cX8_reckons 69 = .ok (.i2l, 1) := by decide +kernel
theorem dX8_reckons_70 : decode cX8_reckons 70 = .ok (.ladd, 1) := by decide +kernel
theorem dX8_reckons_71 : decode cX8_reckons 71 = .ok (.ldc2_w 255, 3) := by decide +kernel
theorem dX8_reckons_74 : decode cX8_reckons 74 = .ok (.lsub, 1) := by decide +kernel
theorem dX8_reckons_75 : decode cX8_reckons 75 = .ok (.lstore 5, 2) := by decide +kernel
theorem dX8_reckons_77 : decode cX8_reckons 77 = .ok (.aload_n 0, 1) := by decide +kernel
theorem dX8_reckons_78 : decode cX8_reckons 78 = .ok (.dup, 1) := by decide +kernel
theorem dX8_reckons_79 : decode cX8_reckons 79 = .ok (.getfield 134, 3) := by decide +kernel
theorem dX8_reckons_82 : decode cX8_reckons 82 = .ok (.iconst 1, 1) := by decide +kernel
theorem dX8_reckons_83 : decode cX8_reckons 83 = .ok (.iadd, 1) := by decide +kernel
theorem dX8_reckons_84 : decode cX8_reckons 84 = .ok (.putfield 134, 3) := by decide +kernel
theorem dX8_reckons_87 : decode cX8_reckons 87 = .ok (.goto (-52), 3) := by decide +kernel
theorem dX8_reckons_90 : decode cX8_reckons 90 = .ok (.aload_n 0, 1) := by decide +kernel
theorem dX8_reckons_91 : decode cX8_reckons 91 = .ok (.iload_n 1, 1) := by decide +kernel
theorem dX8_reckons_92 : decode cX8_reckons 92 = .ok (.aload_n 0, 1) := by decide +kernel
theorem dX8_reckons_93 : decode cX8_reckons 93 = .ok (.getfield 16, 3) := by decide +kernel
theorem dX8_reckons_96 : decode cX8_reckons 96 = .ok (.iload_n 2, 1) := by decide +kernel
theorem dX8_reckons_97 : decode cX8_reckons 97 = .ok (.aload_n 0, 1) := by decide +kernel
theorem dX8_reckons_98 : decode cX8_reckons 98 = .ok (.getfield 134, 3) := by decide +kernel
theorem dX8_reckons_101 : decode cX8_reckons 101 = .ok (.iadd, 1) := by decide +kernel
theorem dX8_reckons_102 : decode cX8_reckons 102 = .ok (.iaload, 1) := by decide +kernel
theorem dX8_reckons_103 : decode cX8_reckons 103 = .ok (.invokevirtual 257, 3) := by decide +kernel
theorem dX8_reckons_106 : decode cX8_reckons 106 = .ok (.i2l, 1) := by decide +kernel
theorem dX8_reckons_107 : decode cX8_reckons 107 = .ok (.lstore 5, 2) := by decide +kernel
theorem dX8_reckons_109 : decode cX8_reckons 109 = .ok (.aload_n 0, 1) := by decide +kernel
theorem dX8_reckons_110 : decode cX8_reckons 110 = .ok (.dup, 1) := by decide +kernel
theorem dX8_reckons_111 : decode cX8_reckons 111 = .ok (.getfield 134, 3) := by decide +kernel
theorem dX8_reckons_114 : decode cX8_reckons 114 = .ok (.iconst 1, 1) := by decide +kernel
theorem dX8_reckons_115 : decode cX8_reckons 115 = .ok (.iadd, 1) := by decide +kernel
theorem dX8_reckons_116 : decode cX8_reckons 116 = .ok (.putfield 134, 3) := by decide +kernel
theorem dX8_reckons_119 : decode cX8_reckons 119 = .ok (.aload_n 0, 1) := by decide +kernel
theorem dX8_reckons_120 : decode cX8_reckons 120 = .ok (.dup, 1) := by decide +kernel
theorem dX8_reckons_121 : decode cX8_reckons 121 = .ok (.getfield 249, 3) := by decide +kernel
theorem dX8_reckons_124 : decode cX8_reckons 124 = .ok (.iload_n 3, 1) := by decide +kernel
theorem dX8_reckons_125 : decode cX8_reckons 125 = .ok (.i2l, 1) := by decide +kernel
theorem dX8_reckons_126 : decode cX8_reckons 126 = .ok (.lload 5, 2) := by decide +kernel
theorem dX8_reckons_128 : decode cX8_reckons 128 = .ok (.lmul, 1) := by decide +kernel
theorem dX8_reckons_129 : decode cX8_reckons 129 = .ok (.ladd, 1) := by decide +kernel
theorem dX8_reckons_130 : decode cX8_reckons 130 = .ok (.putfield 249, 3) := by decide +kernel
theorem dX8_reckons_133 : decode cX8_reckons 133 = .ok (.aload_n 0, 1) := by decide +kernel
theorem dX8_reckons_134 : decode cX8_reckons 134 = .ok (.getfield 16, 3) := by decide +kernel
theorem dX8_reckons_137 : decode cX8_reckons 137 = .ok (.iload_n 2, 1) := by decide +kernel
theorem dX8_reckons_138 : decode cX8_reckons 138 = .ok (.aload_n 0, 1) := by decide +kernel
theorem dX8_reckons_139 : decode cX8_reckons 139 = .ok (.getfield 134, 3) := by decide +kernel
theorem dX8_reckons_142 : decode cX8_reckons 142 = .ok (.iadd, 1) := by decide +kernel
theorem dX8_reckons_143 : decode cX8_reckons 143 = .ok (.iaload, 1) := by decide +kernel
theorem dX8_reckons_144 : decode cX8_reckons 144 = .ok (.bipush 43, 2) := by decide +kernel
theorem dX8_reckons_146 : decode cX8_reckons 146 = .ok (.if_icmp .eq 19, 3) := by decide +kernel
theorem dX8_reckons_149 : decode cX8_reckons 149 = .ok (.aload_n 0, 1) := by decide +kernel
theorem dX8_reckons_150 : decode cX8_reckons 150 = .ok (.getfield 16, 3) := by decide +kernel
theorem dX8_reckons_153 : decode cX8_reckons 153 = .ok (.iload_n 2, 1) := by decide +kernel
theorem dX8_reckons_154 : decode cX8_reckons 154 = .ok (.aload_n 0, 1) := by decide +kernel
theorem dX8_reckons_155 : decode cX8_reckons 155 = .ok (.getfield 134, 3) := by decide +kernel
theorem dX8_reckons_158 : decode cX8_reckons 158 = .ok (.iadd, 1) := by decide +kernel
theorem dX8_reckons_159 : decode cX8_reckons 159 = .ok (.iaload, 1) := by decide +kernel
theorem dX8_reckons_160 : decode cX8_reckons 160 = .ok (.bipush 45, 2) := by decide +kernel
theorem dX8_reckons_162 : decode cX8_reckons 162 = .ok (.if_icmp .ne 7, 3) := by decide +kernel
theorem dX8_reckons_165 : decode cX8_reckons 165 = .ok (.iconst 1, 1) := by decide +kernel
theorem dX8_reckons_166 : decode cX8_reckons 166 = .ok (.goto 4, 3) := by decide +kernel
theorem dX8_reckons_169 : decode cX8_reckons 169 = .ok (.iconst 0, 1) := by decide +kernel
theorem dX8_reckons_170 : decode cX8_reckons 170 = .ok (.istore 4, 2) := by decide +kernel
theorem dX8_reckons_172 : decode cX8_reckons 172 = .ok (.aload_n 0, 1) := by decide +kernel
theorem dX8_reckons_173 : decode cX8_reckons 173 = .ok (.getfield 16, 3) := by decide +kernel
theorem dX8_reckons_176 : decode cX8_reckons 176 = .ok (.iload_n 2, 1) := by decide +kernel
theorem dX8_reckons_177 : decode cX8_reckons 177 = .ok (.aload_n 0, 1) := by decide +kernel
theorem dX8_reckons_178 : decode cX8_reckons 178 = .ok (.getfield 134, 3) := by decide +kernel
theorem dX8_reckons_181 : decode cX8_reckons 181 = .ok (.iadd, 1) := by decide +kernel
theorem dX8_reckons_182 : decode cX8_reckons 182 = .ok (.iaload, 1) := by decide +kernel
theorem dX8_reckons_183 : decode cX8_reckons 183 = .ok (.bipush 45, 2) := by decide +kernel
theorem dX8_reckons_185 : decode cX8_reckons 185 = .ok (.if_icmp .ne 7, 3) := by decide +kernel
theorem dX8_reckons_188 : decode cX8_reckons 188 = .ok (.iconst (-1), 1) := by decide +kernel
theorem dX8_reckons_189 : decode cX8_reckons 189 = .ok (.goto 4, 3) := by decide +kernel
theorem dX8_reckons_192 : decode cX8_reckons 192 = .ok (.iconst 1, 1) := by decide +kernel
theorem dX8_reckons_193 : decode cX8_reckons 193 = .ok (.istore_n 3, 1) := by decide +kernel
theorem dX8_reckons_194 : decode cX8_reckons 194 = .ok (.aload_n 0, 1) := by decide +kernel
theorem dX8_reckons_195 : decode cX8_reckons 195 = .ok (.dup, 1) := by decide +kernel
theorem dX8_reckons_196 : decode cX8_reckons 196 = .ok (.getfield 134, 3) := by decide +kernel
theorem dX8_reckons_199 : decode cX8_reckons 199 = .ok (.iload 4, 2) := by decide +kernel
theorem dX8_reckons_201 : decode cX8_reckons 201 = .ok (.ifCond .eq 7, 3) := by decide +kernel
theorem dX8_reckons_204 : decode cX8_reckons 204 = .ok (.iconst 1, 1) := by decide +kernel
theorem dX8_reckons_205 : decode cX8_reckons 205 = .ok (.goto 4, 3) := by decide +kernel
theorem dX8_reckons_208 : decode cX8_reckons 208 = .ok (.iconst 0, 1) := by decide +kernel
theorem dX8_reckons_209 : decode cX8_reckons 209 = .ok (.iadd, 1) := by decide +kernel
theorem dX8_reckons_210 : decode cX8_reckons 210 = .ok (.putfield 134, 3) := by decide +kernel
theorem dX8_reckons_213 : decode cX8_reckons 213 = .ok (.goto (-203), 3) := by decide +kernel
theorem dX8_reckons_216 : decode cX8_reckons 216 = .ok (.return_, 1) := by decide +kernel
theorem dX8_holds_0 : decode cX8_holds 0 = .ok (.aload_n 0, 1) := by decide +kernel
theorem dX8_holds_1 : decode cX8_holds 1 = .ok (.iload_n 3, 1) := by decide +kernel
theorem dX8_holds_2 : decode cX8_holds 2 = .ok (.putfield 134, 3) := by decide +kernel
theorem dX8_holds_5 : decode cX8_holds 5 = .ok (.aload_n 0, 1) := by decide +kernel
theorem dX8_holds_6 : decode cX8_holds 6 = .ok (.iload_n 1, 1) := by decide +kernel
theorem dX8_holds_7 : decode cX8_holds 7 = .ok (.iload_n 2, 1) := by decide +kernel
theorem dX8_holds_8 : decode cX8_holds 8 = .ok (.invokevirtual 260, 3) := by decide +kernel
theorem dX8_holds_11 : decode cX8_holds 11 = .ok (.aload_n 0, 1) := by decide +kernel
theorem dX8_holds_12 : decode cX8_holds 12 = .ok (.getfield 249, 3) := by decide +kernel
theorem dX8_holds_15 : decode cX8_holds 15 = .ok (.lstore 4, 2) := by decide +kernel
theorem dX8_holds_17 : decode cX8_holds 17 = .ok (.aload_n 0, 1) := by decide +kernel
theorem dX8_holds_18 : decode cX8_holds 18 = .ok (.getfield 16, 3) := by decide +kernel
theorem dX8_holds_21 : decode cX8_holds 21 = .ok (.iload_n 2, 1) := by decide +kernel
theorem dX8_holds_22 : decode cX8_holds 22 = .ok (.aload_n 0, 1) := by decide +kernel
theorem dX8_holds_23 : decode cX8_holds 23 = .ok (.getfield 134, 3) := by decide +kernel
theorem dX8_holds_26 : decode cX8_holds 26 = .ok (.iadd, 1) := by decide +kernel
theorem dX8_holds_27 : decode cX8_holds 27 = .ok (.iaload, 1) := by decide +kernel
theorem dX8_holds_28 : decode cX8_holds 28 = .ok (.istore 6, 2) := by decide +kernel
theorem dX8_holds_30 : decode cX8_holds 30 = .ok (.aload_n 0, 1) := by decide +kernel
theorem dX8_holds_31 : decode cX8_holds 31 = .ok (.dup, 1) := by decide +kernel
theorem dX8_holds_32 : decode cX8_holds 32 = .ok (.getfield 134, 3) := by decide +kernel
theorem dX8_holds_35 : decode cX8_holds 35 = .ok (.iconst 1, 1) := by decide +kernel
theorem dX8_holds_36 : decode cX8_holds 36 = .ok (.iadd, 1) := by decide +kernel
theorem dX8_holds_37 : decode cX8_holds 37 = .ok (.putfield 134, 3) := by decide +kernel
theorem dX8_holds_40 : decode cX8_holds 40 = .ok (.aload_n 0, 1) := by decide +kernel
theorem dX8_holds_41 : decode cX8_holds 41 = .ok (.iload_n 1, 1) := by decide +kernel
theorem dX8_holds_42 : decode cX8_holds 42 = .ok (.iload_n 2, 1) := by decide +kernel
theorem dX8_holds_43 : decode cX8_holds 43 = .ok (.invokevirtual 260, 3) := by decide +kernel
theorem dX8_holds_46 : decode cX8_holds 46 = .ok (.iload 6, 2) := by decide +kernel
theorem dX8_holds_48 : decode cX8_holds 48 = .ok (.bipush 60, 2) := by decide +kernel
theorem dX8_holds_50 : decode cX8_holds 50 = .ok (.if_icmp .ne 21, 3) := by decide +kernel
theorem dX8_holds_53 : decode cX8_holds 53 = .ok (.lload 4, 2) := by decide +kernel
theorem dX8_holds_55 : decode cX8_holds 55 = .ok (.aload_n 0, 1) := by decide +kernel
theorem dX8_holds_56 : decode cX8_holds 56 = .ok (.getfield 249, 3) := by decide +kernel
theorem dX8_holds_59 : decode cX8_holds 59 = .ok (.lcmp, 1) := by decide +kernel
theorem dX8_holds_60 : decode cX8_holds 60 = .ok (.ifCond .ge 7, 3) := by decide +kernel
theorem dX8_holds_63 : decode cX8_holds 63 = .ok (.iconst 1, 1) := by decide +kernel
theorem dX8_holds_64 : decode cX8_holds 64 = .ok (.goto 47, 3) := by decide +kernel
theorem dX8_holds_67 : decode cX8_holds 67 = .ok (.iconst 0, 1) := by decide +kernel
theorem dX8_holds_68 : decode cX8_holds 68 = .ok (.goto 43, 3) := by decide +kernel
theorem dX8_holds_71 : decode cX8_holds 71 = .ok (.iload 6, 2) := by decide +kernel
theorem dX8_holds_73 : decode cX8_holds 73 = .ok (.bipush 62, 2) := by decide +kernel
theorem dX8_holds_75 : decode cX8_holds 75 = .ok (.if_icmp .ne 21, 3) := by decide +kernel
theorem dX8_holds_78 : decode cX8_holds 78 = .ok (.lload 4, 2) := by decide +kernel
theorem dX8_holds_80 : decode cX8_holds 80 = .ok (.aload_n 0, 1) := by decide +kernel
theorem dX8_holds_81 : decode cX8_holds 81 = .ok (.getfield 249, 3) := by decide +kernel
theorem dX8_holds_84 : decode cX8_holds 84 = .ok (.lcmp, 1) := by decide +kernel
theorem dX8_holds_85 : decode cX8_holds 85 = .ok (.ifCond .le 7, 3) := by decide +kernel
theorem dX8_holds_88 : decode cX8_holds 88 = .ok (.iconst 1, 1) := by decide +kernel
theorem dX8_holds_89 : decode cX8_holds 89 = .ok (.goto 22, 3) := by decide +kernel
theorem dX8_holds_92 : decode cX8_holds 92 = .ok (.iconst 0, 1) := by decide +kernel
theorem dX8_holds_93 : decode cX8_holds 93 = .ok (.goto 18, 3) := by decide +kernel
theorem dX8_holds_96 : decode cX8_holds 96 = .ok (.lload 4, 2) := by decide +kernel
theorem dX8_holds_98 : decode cX8_holds 98 = .ok (.aload_n 0, 1) := by decide +kernel
theorem dX8_holds_99 : decode cX8_holds 99 = .ok (.getfield 249, 3) := by decide +kernel
theorem dX8_holds_102 : decode cX8_holds 102 = .ok (.lcmp, 1) := by decide +kernel
theorem dX8_holds_103 : decode cX8_holds 103 = .ok (.ifCond .ne 7, 3) := by decide +kernel
theorem dX8_holds_106 : decode cX8_holds 106 = .ok (.iconst 1, 1) := by decide +kernel
theorem dX8_holds_107 : decode cX8_holds 107 = .ok (.goto 4, 3) := by decide +kernel
theorem dX8_holds_110 : decode cX8_holds 110 = .ok (.iconst 0, 1) := by decide +kernel
theorem dX8_holds_111 : decode cX8_holds 111 = .ok (.ireturn, 1) := by decide +kernel
theorem dX8_writesPart_0 : decode cX8_writesPart 0 = .ok (.aload_n 0, 1) := by decide +kernel
theorem dX8_writesPart_1 : decode cX8_writesPart 1 = .ok (.getfield 16, 3) := by decide +kernel
theorem dX8_writesPart_4 : decode cX8_writesPart 4 = .ok (.iload_n 2, 1) := by decide +kernel
theorem dX8_writesPart_5 : decode cX8_writesPart 5 = .ok (.aload_n 0, 1) := by decide +kernel
theorem dX8_writesPart_6 : decode cX8_writesPart 6 = .ok (.getfield 134, 3) := by decide +kernel
theorem dX8_writesPart_9 : decode cX8_writesPart 9 = .ok (.iadd, 1) := by decide +kernel
theorem dX8_writesPart_10 : decode cX8_writesPart 10 = .ok (.iconst 1, 1) := by decide +kernel
theorem dX8_writesPart_11 : decode cX8_writesPart 11 = .ok (.iadd, 1) := by decide +kernel
theorem dX8_writesPart_12 : decode cX8_writesPart 12 = .ok (.iaload, 1) := by decide +kernel
theorem dX8_writesPart_13 : decode cX8_writesPart 13 = .ok (.istore_n 3, 1) := by decide +kernel
theorem dX8_writesPart_14 : decode cX8_writesPart 14 = .ok (.aload_n 0, 1) := by decide +kernel
theorem dX8_writesPart_15 : decode cX8_writesPart 15 = .ok (.getfield 134, 3) := by decide +kernel
theorem dX8_writesPart_18 : decode cX8_writesPart 18 = .ok (.istore 4, 2) := by decide +kernel
theorem dX8_writesPart_20 : decode cX8_writesPart 20 = .ok (.iload_n 3, 1) := by decide +kernel
theorem dX8_writesPart_21 : decode cX8_writesPart 21 = .ok (.bipush 42, 2) := by decide +kernel
theorem dX8_writesPart_23 : decode cX8_writesPart 23 = .ok (.if_icmp .ne 32, 3) := by decide +kernel
theorem dX8_writesPart_26 : decode cX8_writesPart 26 = .ok (.aload_n 0, 1) := by decide +kernel
theorem dX8_writesPart_27 : decode cX8_writesPart 27 = .ok (.iconst 0, 1) := by decide +kernel
theorem dX8_writesPart_28 : decode cX8_writesPart 28 = .ok (.putfield 234, 3) := by decide +kernel
theorem dX8_writesPart_31 : decode cX8_writesPart 31 = .ok (.aload_n 0, 1) := by decide +kernel
theorem dX8_writesPart_32 : decode cX8_writesPart 32 = .ok (.aload_n 0, 1) := by decide +kernel
theorem dX8_writesPart_33 : decode cX8_writesPart 33 = .ok (.getfield 22, 3) := by decide +kernel
theorem dX8_writesPart_36 : decode cX8_writesPart 36 = .ok (.iload_n 2, 1) := by decide +kernel
theorem dX8_writesPart_37 : decode cX8_writesPart 37 = .ok (.iload 4, 2) := by decide +kernel
theorem dX8_writesPart_39 : decode cX8_writesPart 39 = .ok (.iadd, 1) := by decide +kernel
theorem dX8_writesPart_40 : decode cX8_writesPart 40 = .ok (.iaload, 1) := by decide +kernel
theorem dX8_writesPart_41 : decode cX8_writesPart 41 = .ok (.putfield 264, 3) := by decide +kernel
theorem dX8_writesPart_44 : decode cX8_writesPart 44 = .ok (.aload_n 0, 1) := by decide +kernel
theorem dX8_writesPart_45 : decode cX8_writesPart 45 = .ok (.aload_n 0, 1) := by decide +kernel
theorem dX8_writesPart_46 : decode cX8_writesPart 46 = .ok (.getfield 264, 3) := by decide +kernel
theorem dX8_writesPart_49 : decode cX8_writesPart 49 = .ok (.putfield 134, 3) := by decide +kernel
theorem dX8_writesPart_52 : decode cX8_writesPart 52 = .ok (.goto 112, 3) := by decide +kernel
theorem dX8_writesPart_55 : decode cX8_writesPart 55 = .ok (.iload_n 3, 1) := by decide +kernel
theorem dX8_writesPart_56 : decode cX8_writesPart 56 = .ok (.bipush 63, 2) := by decide +kernel
theorem dX8_writesPart_58 : decode cX8_writesPart 58 = .ok (.if_icmp .ne 44, 3) := by decide +kernel
theorem dX8_writesPart_61 : decode cX8_writesPart 61 = .ok (.aload_n 0, 1) := by decide +kernel
theorem dX8_writesPart_62 : decode cX8_writesPart 62 = .ok (.aload_n 0, 1) := by decide +kernel
theorem dX8_writesPart_63 : decode cX8_writesPart 63 = .ok (.iload_n 1, 1) := by decide +kernel
theorem dX8_writesPart_64 : decode cX8_writesPart 64 = .ok (.iload_n 2, 1) := by decide +kernel
theorem dX8_writesPart_65 : decode cX8_writesPart 65 = .ok (.iload 4, 2) := by decide +kernel
theorem dX8_writesPart_67 : decode cX8_writesPart 67 = .ok (.iconst 2, 1) := by decide +kernel
theorem dX8_writesPart_68 : decode cX8_writesPart 68 = .ok (.iadd, 1) := by decide +kernel
theorem dX8_writesPart_69 : decode cX8_writesPart 69 = .ok (.invokevirtual 267, 3) := by decide +kernel
theorem dX8_writesPart_72 : decode cX8_writesPart 72 = .ok (.ifCond .eq 15, 3) := by decide +kernel
theorem dX8_writesPart_75 : decode cX8_writesPart 75 = .ok (.aload_n 0, 1) := by decide +kernel
theorem dX8_writesPart_76 : decode cX8_writesPart 76 = .ok (.getfield 22, 3) := by decide +kernel
theorem dX8_writesPart_79 : decode cX8_writesPart 79 = .ok (.iload_n 2, 1) := by decide +kernel
theorem dX8_writesPart_80 : decode cX8_writesPart 80 = .ok (.iload 4, 2) := by decide +kernel
theorem dX8_writesPart_82 : decode cX8_writesPart 82 = .ok (.iadd, 1) := by decide +kernel
theorem dX8_writesPart_83 : decode cX8_writesPart 83 = .ok (.iaload, 1) := by decide +kernel
theorem dX8_writesPart_84 : decode cX8_writesPart 84 = .ok (.goto 12, 3) := by decide +kernel
theorem dX8_writesPart_87 : decode cX8_writesPart 87 = .ok (.aload_n 0, 1) := by decide +kernel
theorem dX8_writesPart_88 : decode cX8_writesPart 88 = .ok (.getfield 25, 3) := by decide +kernel
theorem dX8_writesPart_91 : decode cX8_writesPart 91 = .ok (.iload_n 2, 1) := by decide +kernel
theorem dX8_writesPart_92 : decode cX8_writesPart 92 = .ok (.iload 4, 2) := by decide +kernel
theorem dX8_writesPart_94 : decode cX8_writesPart 94 = .ok (.iadd, 1) := by decide +kernel
theorem dX8_writesPart_95 : decode cX8_writesPart 95 = .ok (.iaload, 1) := by decide +kernel
theorem dX8_writesPart_96 : decode cX8_writesPart 96 = .ok (.putfield 134, 3) := by decide +kernel
theorem dX8_writesPart_99 : decode cX8_writesPart 99 = .ok (.goto 65, 3) := by decide +kernel
theorem dX8_writesPart_102 : decode cX8_writesPart 102 = .ok (.aload_n 0, 1) := by decide +kernel
theorem dX8_writesPart_103 : decode cX8_writesPart 103 = .ok (.getfield 16, 3) := by decide +kernel
theorem dX8_writesPart_106 : decode cX8_writesPart 106 = .ok (.iload_n 2, 1) := by decide +kernel
theorem dX8_writesPart_107 : decode cX8_writesPart 107 = .ok (.aload_n 0, 1) := by decide +kernel
theorem dX8_writesPart_108 : decode cX8_writesPart 108 = .ok (.getfield 134, 3) := by decide +kernel
theorem dX8_writesPart_111 : decode cX8_writesPart 111 = .ok (.iadd, 1) := by decide +kernel
theorem dX8_writesPart_112 : decode cX8_writesPart 112 = .ok (.iconst 2, 1) := by decide +kernel
theorem dX8_writesPart_113 : decode cX8_writesPart 113 = .ok (.iadd, 1) := by decide +kernel
theorem dX8_writesPart_114 : decode cX8_writesPart 114 = .ok (.iaload, 1) := by decide +kernel
theorem dX8_writesPart_115 : decode cX8_writesPart 115 = .ok (.istore 5, 2) := by decide +kernel
theorem dX8_writesPart_117 : decode cX8_writesPart 117 = .ok (.aload_n 0, 1) := by decide +kernel
theorem dX8_writesPart_118 : decode cX8_writesPart 118 = .ok (.aload_n 0, 1) := by decide +kernel
theorem dX8_writesPart_119 : decode cX8_writesPart 119 = .ok (.iload_n 1, 1) := by decide +kernel
theorem dX8_writesPart_120 : decode cX8_writesPart 120 = .ok (.iload_n 3, 1) := by decide +kernel
theorem dX8_writesPart_121 : decode cX8_writesPart 121 = .ok (.invokevirtual 257, 3) := by decide +kernel
theorem dX8_writesPart_124 : decode cX8_writesPart 124 = .ok (.iload 5, 2) := by decide +kernel
theorem dX8_writesPart_126 : decode cX8_writesPart 126 = .ok (.bipush 125, 2) := by decide +kernel
theorem dX8_writesPart_128 : decode cX8_writesPart 128 = .ok (.if_icmp .ne 7, 3) := by decide +kernel
theorem dX8_writesPart_131 : decode cX8_writesPart 131 = .ok (.iconst 0, 1) := by decide +kernel
theorem dX8_writesPart_132 : decode cX8_writesPart 132 = .ok (.goto 8, 3) := by decide +kernel
theorem dX8_writesPart_135 : decode cX8_writesPart 135 = .ok (.iload 5, 2) := by decide +kernel
theorem dX8_writesPart_137 : decode cX8_writesPart 137 = .ok (.bipush 48, 2) := by decide +kernel
theorem dX8_writesPart_139 : decode cX8_writesPart 139 = .ok (.isub, 1) := by decide +kernel
theorem dX8_writesPart_140 : decode cX8_writesPart 140 = .ok (.invokevirtual 270, 3) := by decide +kernel
theorem dX8_writesPart_143 : decode cX8_writesPart 143 = .ok (.aload_n 0, 1) := by decide +kernel
theorem dX8_writesPart_144 : decode cX8_writesPart 144 = .ok (.dup, 1) := by decide +kernel
theorem dX8_writesPart_145 : decode cX8_writesPart 145 = .ok (.getfield 134, 3) := by decide +kernel
theorem dX8_writesPart_148 : decode cX8_writesPart 148 = .ok (.iload 5, 2) := by decide +kernel
theorem dX8_writesPart_150 : decode cX8_writesPart 150 = .ok (.bipush 125, 2) := by decide +kernel
theorem dX8_writesPart_152 : decode cX8_writesPart 152 = .ok (.if_icmp .ne 7, 3) := by decide +kernel
theorem dX8_writesPart_155 : decode cX8_writesPart 155 = .ok (.iconst 3, 1) := by decide +kernel
theorem dX8_writesPart_156 : decode cX8_writesPart 156 = .ok (.goto 4, 3) := by decide +kernel
theorem dX8_writesPart_159 : decode cX8_writesPart 159 = .ok (.iconst 4, 1) := by decide +kernel
theorem dX8_writesPart_160 : decode cX8_writesPart 160 = .ok (.iadd, 1) := by decide +kernel
theorem dX8_writesPart_161 : decode cX8_writesPart 161 = .ok (.putfield 134, 3) := by decide +kernel
theorem dX8_writesPart_164 : decode cX8_writesPart 164 = .ok (.return_, 1) := by decide +kernel
theorem dX8_writes_0 : decode cX8_writes 0 = .ok (.sipush 160, 3) := by decide +kernel
theorem dX8_writes_3 : decode cX8_writes 3 = .ok (.iload_n 2, 1) := by decide +kernel
theorem dX8_writes_4 : decode cX8_writes 4 = .ok (.imul, 1) := by decide +kernel
theorem dX8_writes_5 : decode cX8_writes 5 = .ok (.istore_n 3, 1) := by decide +kernel
theorem dX8_writes_6 : decode cX8_writes 6 = .ok (.aload_n 0, 1) := by decide +kernel
theorem dX8_writes_7 : decode cX8_writes 7 = .ok (.iconst 0, 1) := by decide +kernel
theorem dX8_writes_8 : decode cX8_writes 8 = .ok (.putfield 237, 3) := by decide +kernel
theorem dX8_writes_11 : decode cX8_writes 11 = .ok (.aload_n 0, 1) := by decide +kernel
theorem dX8_writes_12 : decode cX8_writes 12 = .ok (.bipush 32, 2) := by decide +kernel
theorem dX8_writes_14 : decode cX8_writes 14 = .ok (.putfield 243, 3) := by decide +kernel
theorem dX8_writes_17 : decode cX8_writes 17 = .ok (.aload_n 0, 1) := by decide +kernel
theorem dX8_writes_18 : decode cX8_writes 18 = .ok (.iconst (-1), 1) := by decide +kernel
theorem dX8_writes_19 : decode cX8_writes 19 = .ok (.putfield 234, 3) := by decide +kernel
theorem dX8_writes_22 : decode cX8_writes 22 = .ok (.aload_n 0, 1) := by decide +kernel
theorem dX8_writes_23 : decode cX8_writes 23 = .ok (.iconst 0, 1) := by decide +kernel
theorem dX8_writes_24 : decode cX8_writes 24 = .ok (.putfield 134, 3) := by decide +kernel
theorem dX8_writes_27 : decode cX8_writes 27 = .ok (.aload_n 0, 1) := by decide +kernel
theorem dX8_writes_28 : decode cX8_writes 28 = .ok (.getfield 134, 3) := by decide +kernel
theorem dX8_writes_31 : decode cX8_writes 31 = .ok (.aload_n 0, 1) := by decide +kernel
theorem dX8_writes_32 : decode cX8_writes 32 = .ok (.getfield 13, 3) := by decide +kernel
theorem dX8_writes_35 : decode cX8_writes 35 = .ok (.iload_n 2, 1) := by decide +kernel
theorem dX8_writes_36 : decode cX8_writes 36 = .ok (.iaload, 1) := by decide +kernel
theorem dX8_writes_37 : decode cX8_writes 37 = .ok (.if_icmp .ge 173, 3) := by decide +kernel
theorem dX8_writes_40 : decode cX8_writes 40 = .ok (.aload_n 0, 1) := by decide +kernel
theorem dX8_writes_41 : decode cX8_writes 41 = .ok (.getfield 16, 3) := by decide +kernel
theorem dX8_writes_44 : decode cX8_writes 44 = .ok (.iload_n 3, 1) := by decide +kernel
theorem dX8_writes_45 : decode cX8_writes 45 = .ok (.aload_n 0, 1) := by decide +kernel
theorem dX8_writes_46 : decode cX8_writes 46 = .ok (.getfield 134, 3) := by decide +kernel
theorem dX8_writes_49 : decode cX8_writes 49 = .ok (.iadd, 1) := by decide +kernel
theorem dX8_writes_50 : decode cX8_writes 50 = .ok (.iaload, 1) := by decide +kernel
theorem dX8_writes_51 : decode cX8_writes 51 = .ok (.istore 4, 2) := by decide +kernel
theorem dX8_writes_53 : decode cX8_writes 53 = .ok (.aload_n 0, 1) := by decide +kernel
theorem dX8_writes_54 : decode cX8_writes 54 = .ok (.getfield 19, 3) := by decide +kernel
theorem dX8_writes_57 : decode cX8_writes 57 = .ok (.iload_n 3, 1) := by decide +kernel
theorem dX8_writes_58 : decode cX8_writes 58 = .ok (.aload_n 0, 1) := by decide +kernel
theorem dX8_writes_59 : decode cX8_writes 59 = .ok (.getfield 134, 3) := by decide +kernel
theorem dX8_writes_62 : decode cX8_writes 62 = .ok (.iadd, 1) := by decide +kernel
theorem dX8_writes_63 : decode cX8_writes 63 = .ok (.iaload, 1) := by decide +kernel
theorem dX8_writes_64 : decode cX8_writes 64 = .ok (.istore 5, 2) := by decide +kernel
theorem dX8_writes_66 : decode cX8_writes 66 = .ok (.iload 4, 2) := by decide +kernel
theorem dX8_writes_68 : decode cX8_writes 68 = .ok (.bipush 123, 2) := by decide +kernel
theorem dX8_writes_70 : decode cX8_writes 70 = .ok (.if_icmp .ne 12, 3) := by decide +kernel
theorem dX8_writes_73 : decode cX8_writes 73 = .ok (.aload_n 0, 1) := by decide +kernel
theorem dX8_writes_74 : decode cX8_writes 74 = .ok (.iload_n 1, 1) := by decide +kernel
theorem dX8_writes_75 : decode cX8_writes 75 = .ok (.iload_n 3, 1) := by decide +kernel
theorem dX8_writes_76 : decode cX8_writes 76 = .ok (.invokevirtual 273, 3) := by decide +kernel
theorem dX8_writes_79 : decode cX8_writes 79 = .ok (.goto 128, 3) := by decide +kernel
theorem dX8_writes_82 : decode cX8_writes 82 = .ok (.iload 5, 2) := by decide +kernel
theorem dX8_writes_84 : decode cX8_writes 84 = .ok (.iconst 1, 1) := by decide +kernel
theorem dX8_writes_85 : decode cX8_writes 85 = .ok (.if_icmp .ne 39, 3) := by decide +kernel
theorem dX8_writes_88 : decode cX8_writes 88 = .ok (.aload_n 0, 1) := by decide +kernel
theorem dX8_writes_89 : decode cX8_writes 89 = .ok (.getfield 234, 3) := by decide +kernel
theorem dX8_writes_92 : decode cX8_writes 92 = .ok (.iconst 1, 1) := by decide +kernel
theorem dX8_writes_93 : decode cX8_writes 93 = .ok (.iadd, 1) := by decide +kernel
theorem dX8_writes_94 : decode cX8_writes 94 = .ok (.aload_n 0, 1) := by decide +kernel
theorem dX8_writes_95 : decode cX8_writes 95 = .ok (.getfield 71, 3) := by decide +kernel
theorem dX8_writes_98 : decode cX8_writes 98 = .ok (.iload_n 1, 1) := by decide +kernel
theorem dX8_writes_99 : decode cX8_writes 99 = .ok (.iaload, 1) := by decide +kernel
theorem dX8_writes_100 : decode cX8_writes 100 = .ok (.if_icmp .ge 24, 3) := by decide +kernel
theorem dX8_writes_103 : decode cX8_writes 103 = .ok (.aload_n 0, 1) := by decide +kernel
theorem dX8_writes_104 : decode cX8_writes 104 = .ok (.dup, 1) := by decide +kernel
theorem dX8_writes_105 : decode cX8_writes 105 = .ok (.getfield 234, 3) := by decide +kernel
theorem dX8_writes_108 : decode cX8_writes 108 = .ok (.iconst 1, 1) := by decide +kernel
theorem dX8_writes_109 : decode cX8_writes 109 = .ok (.iadd, 1) := by decide +kernel
theorem dX8_writes_110 : decode cX8_writes 110 = .ok (.putfield 234, 3) := by decide +kernel
theorem dX8_writes_113 : decode cX8_writes 113 = .ok (.aload_n 0, 1) := by decide +kernel
theorem dX8_writes_114 : decode cX8_writes 114 = .ok (.aload_n 0, 1) := by decide +kernel
theorem dX8_writes_115 : decode cX8_writes 115 = .ok (.getfield 264, 3) := by decide +kernel
theorem dX8_writes_118 : decode cX8_writes 118 = .ok (.putfield 134, 3) := by decide +kernel
theorem dX8_writes_121 : decode cX8_writes 121 = .ok (.goto 86, 3) := by decide +kernel
theorem dX8_writes_124 : decode cX8_writes 124 = .ok (.iload 5, 2) := by decide +kernel
theorem dX8_writes_126 : decode cX8_writes 126 = .ok (.iconst 1, 1) := by decide +kernel
theorem dX8_writes_127 : decode cX8_writes 127 = .ok (.if_icmp .ne 21, 3) := by decide +kernel
theorem dX8_writes_130 : decode cX8_writes 130 = .ok (.aload_n 0, 1) := by decide +kernel
theorem dX8_writes_131 : decode cX8_writes 131 = .ok (.iconst (-1), 1) := by decide +kernel
theorem dX8_writes_132 : decode cX8_writes 132 = .ok (.putfield 234, 3) := by decide +kernel
theorem dX8_writes_135 : decode cX8_writes 135 = .ok (.aload_n 0, 1) := by decide +kernel
theorem dX8_writes_136 : decode cX8_writes 136 = .ok (.dup, 1) := by decide +kernel
theorem dX8_writes_137 : decode cX8_writes 137 = .ok (.getfield 134, 3) := by decide +kernel
theorem dX8_writes_140 : decode cX8_writes 140 = .ok (.iconst 2, 1) := by decide +kernel
theorem dX8_writes_141 : decode cX8_writes 141 = .ok (.iadd, 1) := by decide +kernel
theorem dX8_writes_142 : decode cX8_writes 142 = .ok (.putfield 134, 3) := by decide +kernel
theorem dX8_writes_145 : decode cX8_writes 145 = .ok (.goto 62, 3) := by decide +kernel
theorem dX8_writes_148 : decode cX8_writes 148 = .ok (.iload 5, 2) := by decide +kernel
theorem dX8_writes_150 : decode cX8_writes 150 = .ok (.iconst 2, 1) := by decide +kernel
theorem dX8_writes_151 : decode cX8_writes 151 = .ok (.if_icmp .ne 21, 3) := by decide +kernel
theorem dX8_writes_154 : decode cX8_writes 154 = .ok (.aload_n 0, 1) := by decide +kernel
theorem dX8_writes_155 : decode cX8_writes 155 = .ok (.aload_n 0, 1) := by decide +kernel
theorem dX8_writes_156 : decode cX8_writes 156 = .ok (.getfield 25, 3) := by decide +kernel
theorem dX8_writes_159 : decode cX8_writes 159 = .ok (.iload_n 3, 1) := by decide +kernel
theorem dX8_writes_160 : decode cX8_writes 160 = .ok (.aload_n 0, 1) := by decide +kernel
theorem dX8_writes_161 : decode cX8_writes 161 = .ok (.getfield 134, 3) := by decide +kernel
theorem dX8_writes_164 : decode cX8_writes 164 = .ok (.iadd, 1) := by decide +kernel
theorem dX8_writes_165 : decode cX8_writes 165 = .ok (.iaload, 1) := by decide +kernel
theorem dX8_writes_166 : decode cX8_writes 166 = .ok (.putfield 134, 3) := by decide +kernel
theorem dX8_writes_169 : decode cX8_writes 169 = .ok (.goto 38, 3) := by decide +kernel
theorem dX8_writes_172 : decode cX8_writes 172 = .ok (.iload 5, 2) := by decide +kernel
theorem dX8_writes_174 : decode cX8_writes 174 = .ok (.iconst 3, 1) := by decide +kernel
theorem dX8_writes_175 : decode cX8_writes 175 = .ok (.if_icmp .ne 16, 3) := by decide +kernel
theorem dX8_writes_178 : decode cX8_writes 178 = .ok (.aload_n 0, 1) := by decide +kernel
theorem dX8_writes_179 : decode cX8_writes 179 = .ok (.dup, 1) := by decide +kernel
theorem dX8_writes_180 : decode cX8_writes 180 = .ok (.getfield 134, 3) := by decide +kernel
theorem dX8_writes_183 : decode cX8_writes 183 = .ok (.iconst 1, 1) := by decide +kernel
theorem dX8_writes_184 : decode cX8_writes 184 = .ok (.iadd, 1) := by decide +kernel
theorem dX8_writes_185 : decode cX8_writes 185 = .ok (.putfield 134, 3) := by decide +kernel
theorem dX8_writes_188 : decode cX8_writes 188 = .ok (.goto 19, 3) := by decide +kernel
theorem dX8_writes_191 : decode cX8_writes 191 = .ok (.aload_n 0, 1) := by decide +kernel
theorem dX8_writes_192 : decode cX8_writes 192 = .ok (.iload 4, 2) := by decide +kernel
theorem dX8_writes_194 : decode cX8_writes 194 = .ok (.invokevirtual 246, 3) := by decide +kernel
theorem dX8_writes_197 : decode cX8_writes 197 = .ok (.aload_n 0, 1) := by decide +kernel
theorem dX8_writes_198 : decode cX8_writes 198 = .ok (.dup, 1) := by decide +kernel
theorem dX8_writes_199 : decode cX8_writes 199 = .ok (.getfield 134, 3) := by decide +kernel
theorem dX8_writes_202 : decode cX8_writes 202 = .ok (.iconst 1, 1) := by decide +kernel
theorem dX8_writes_203 : decode cX8_writes 203 = .ok (.iadd, 1) := by decide +kernel
theorem dX8_writes_204 : decode cX8_writes 204 = .ok (.putfield 134, 3) := by decide +kernel
theorem dX8_writes_207 : decode cX8_writes 207 = .ok (.goto (-180), 3) := by decide +kernel
theorem dX8_writes_210 : decode cX8_writes 210 = .ok (.return_, 1) := by decide +kernel
theorem dX8_written_0 : decode cX8_written 0 = .ok (.aload_n 0, 1) := by decide +kernel
theorem dX8_written_1 : decode cX8_written 1 = .ok (.aload_n 0, 1) := by decide +kernel
theorem dX8_written_2 : decode cX8_written 2 = .ok (.iload_n 1, 1) := by decide +kernel
theorem dX8_written_3 : decode cX8_written 3 = .ok (.invokevirtual 222, 3) := by decide +kernel
theorem dX8_written_6 : decode cX8_written 6 = .ok (.ifCond .eq 25, 3) := by decide +kernel
theorem dX8_written_9 : decode cX8_written 9 = .ok (.iload_n 2, 1) := by decide +kernel
theorem dX8_written_10 : decode cX8_written 10 = .ok (.iconst 0, 1) := by decide +kernel
theorem dX8_written_11 : decode cX8_written 11 = .ok (.aload_n 0, 1) := by decide +kernel
theorem dX8_written_12 : decode cX8_written 12 = .ok (.getfield 181, 3) := by decide +kernel
theorem dX8_written_15 : decode cX8_written 15 = .ok (.iconst 1, 1) := by decide +kernel
theorem dX8_written_16 : decode cX8_written 16 = .ok (.isub, 1) := by decide +kernel
theorem dX8_written_17 : decode cX8_written 17 = .ok (.invokestatic 120, 3) := by decide +kernel
theorem dX8_written_20 : decode cX8_written 20 = .ok (.ifCond .eq 11, 3) := by decide +kernel
theorem dX8_written_23 : decode cX8_written 23 = .ok (.iload_n 3, 1) := by decide +kernel
theorem dX8_written_24 : decode cX8_written 24 = .ok (.ifCond .lt 7, 3) := by decide +kernel
theorem dX8_written_27 : decode cX8_written 27 = .ok (.iconst 0, 1) := by decide +kernel
theorem dX8_written_28 : decode cX8_written 28 = .ok (.goto 4, 3) := by decide +kernel
theorem dX8_written_31 : decode cX8_written 31 = .ok (.iconst 1, 1) := by decide +kernel
theorem dX8_written_32 : decode cX8_written 32 = .ok (.putfield 110, 3) := by decide +kernel
theorem dX8_written_35 : decode cX8_written 35 = .ok (.aload_n 0, 1) := by decide +kernel
theorem dX8_written_36 : decode cX8_written 36 = .ok (.getfield 110, 3) := by decide +kernel
theorem dX8_written_39 : decode cX8_written 39 = .ok (.ifCond .le 5, 3) := by decide +kernel
theorem dX8_written_42 : decode cX8_written 42 = .ok (.iconst 0, 1) := by decide +kernel
theorem dX8_written_43 : decode cX8_written 43 = .ok (.ireturn, 1) := by decide +kernel
theorem dX8_written_44 : decode cX8_written 44 = .ok (.aload_n 0, 1) := by decide +kernel
theorem dX8_written_45 : decode cX8_written 45 = .ok (.iload_n 3, 1) := by decide +kernel
theorem dX8_written_46 : decode cX8_written 46 = .ok (.putfield 240, 3) := by decide +kernel
theorem dX8_written_49 : decode cX8_written 49 = .ok (.aload_n 0, 1) := by decide +kernel
theorem dX8_written_50 : decode cX8_written 50 = .ok (.iload_n 1, 1) := by decide +kernel
theorem dX8_written_51 : decode cX8_written 51 = .ok (.iload_n 2, 1) := by decide +kernel
theorem dX8_written_52 : decode cX8_written 52 = .ok (.invokevirtual 276, 3) := by decide +kernel
theorem dX8_written_55 : decode cX8_written 55 = .ok (.aload_n 0, 1) := by decide +kernel
theorem dX8_written_56 : decode cX8_written 56 = .ok (.getfield 243, 3) := by decide +kernel
theorem dX8_written_59 : decode cX8_written 59 = .ok (.i2c, 1) := by decide +kernel
theorem dX8_written_60 : decode cX8_written 60 = .ok (.ireturn, 1) := by decide +kernel
theorem dX8_length_0 : decode cX8_length 0 = .ok (.aload_n 0, 1) := by decide +kernel
theorem dX8_length_1 : decode cX8_length 1 = .ok (.aload_n 0, 1) := by decide +kernel
theorem dX8_length_2 : decode cX8_length 2 = .ok (.iload_n 1, 1) := by decide +kernel
theorem dX8_length_3 : decode cX8_length 3 = .ok (.invokevirtual 222, 3) := by decide +kernel
theorem dX8_length_6 : decode cX8_length 6 = .ok (.ifCond .eq 21, 3) := by decide +kernel
theorem dX8_length_9 : decode cX8_length 9 = .ok (.iload_n 2, 1) := by decide +kernel
theorem dX8_length_10 : decode cX8_length 10 = .ok (.iconst 0, 1) := by decide +kernel
theorem dX8_length_11 : decode cX8_length 11 = .ok (.aload_n 0, 1) := by decide +kernel
theorem dX8_length_12 : decode cX8_length 12 = .ok (.getfield 181, 3) := by decide +kernel
theorem dX8_length_15 : decode cX8_length 15 = .ok (.iconst 1, 1) := by decide +kernel
theorem dX8_length_16 : decode cX8_length 16 = .ok (.isub, 1) := by decide +kernel
theorem dX8_length_17 : decode cX8_length 17 = .ok (.invokestatic 120, 3) := by decide +kernel
theorem dX8_length_20 : decode cX8_length 20 = .ok (.ifCond .eq 7, 3) := by decide +kernel
theorem dX8_length_23 : decode cX8_length 23 = .ok (.iconst 0, 1) := by decide +kernel
theorem dX8_length_24 : decode cX8_length 24 = .ok (.goto 4, 3) := by decide +kernel
theorem dX8_length_27 : decode cX8_length 27 = .ok (.iconst 1, 1) := by decide +kernel
theorem dX8_length_28 : decode cX8_length 28 = .ok (.putfield 110, 3) := by decide +kernel
theorem dX8_length_31 : decode cX8_length 31 = .ok (.aload_n 0, 1) := by decide +kernel
theorem dX8_length_32 : decode cX8_length 32 = .ok (.getfield 110, 3) := by decide +kernel
theorem dX8_length_35 : decode cX8_length 35 = .ok (.ifCond .le 5, 3) := by decide +kernel
theorem dX8_length_38 : decode cX8_length 38 = .ok (.iconst 0, 1) := by decide +kernel
theorem dX8_length_39 : decode cX8_length 39 = .ok (.ireturn, 1) := by decide +kernel
theorem dX8_length_40 : decode cX8_length 40 = .ok (.aload_n 0, 1) := by decide +kernel
theorem dX8_length_41 : decode cX8_length 41 = .ok (.iconst (-1), 1) := by decide +kernel
theorem dX8_length_42 : decode cX8_length 42 = .ok (.putfield 240, 3) := by decide +kernel
theorem dX8_length_45 : decode cX8_length 45 = .ok (.aload_n 0, 1) := by decide +kernel
theorem dX8_length_46 : decode cX8_length 46 = .ok (.iload_n 1, 1) := by decide +kernel
theorem dX8_length_47 : decode cX8_length 47 = .ok (.iload_n 2, 1) := by decide +kernel
theorem dX8_length_48 : decode cX8_length 48 = .ok (.invokevirtual 276, 3) := by decide +kernel
theorem dX8_length_51 : decode cX8_length 51 = .ok (.aload_n 0, 1) := by decide +kernel
theorem dX8_length_52 : decode cX8_length 52 = .ok (.getfield 237, 3) := by decide +kernel
theorem dX8_length_55 : decode cX8_length 55 = .ok (.ireturn, 1) := by decide +kernel
theorem dX8_settle_0 : decode cX8_settle 0 = .ok (.aload_n 0, 1) := by decide +kernel
theorem dX8_settle_1 : decode cX8_settle 1 = .ok (.iload_n 1, 1) := by decide +kernel
theorem dX8_settle_2 : decode cX8_settle 2 = .ok (.invokestatic 190, 3) := by decide +kernel
theorem dX8_settle_5 : decode cX8_settle 5 = .ok (.ifCond .eq 7, 3) := by decide +kernel
theorem dX8_settle_8 : decode cX8_settle 8 = .ok (.iconst 0, 1) := by decide +kernel
theorem dX8_settle_9 : decode cX8_settle 9 = .ok (.goto 4, 3) := by decide +kernel
theorem dX8_settle_12 : decode cX8_settle 12 = .ok (.iconst 1, 1) := by decide +kernel
theorem dX8_settle_13 : decode cX8_settle 13 = .ok (.putfield 110, 3) := by decide +kernel
theorem dX8_settle_16 : decode cX8_settle 16 = .ok (.iconst 0, 1) := by decide +kernel
theorem dX8_settle_17 : decode cX8_settle 17 = .ok (.istore_n 2, 1) := by decide +kernel
theorem dX8_settle_18 : decode cX8_settle 18 = .ok (.iconst 0, 1) := by decide +kernel
theorem dX8_settle_19 : decode cX8_settle 19 = .ok (.istore_n 3, 1) := by decide +kernel
theorem dX8_settle_20 : decode cX8_settle 20 = .ok (.iload_n 3, 1) := by decide +kernel
theorem dX8_settle_21 : decode cX8_settle 21 = .ok (.aload_n 0, 1) := by decide +kernel
theorem dX8_settle_22 : decode cX8_settle 22 = .ok (.getfield 210, 3) := by decide +kernel
theorem dX8_settle_25 : decode cX8_settle 25 = .ok (.if_icmp .ge 104, 3) := by decide +kernel
theorem dX8_settle_28 : decode cX8_settle 28 = .ok (.aload_n 0, 1) := by decide +kernel
theorem dX8_settle_29 : decode cX8_settle 29 = .ok (.getfield 110, 3) := by decide +kernel
theorem dX8_settle_32 : decode cX8_settle 32 = .ok (.ifCond .ne 97, 3) := by decide +kernel
theorem dX8_settle_35 : decode cX8_settle 35 = .ok (.aload_n 0, 1) := by decide +kernel
theorem dX8_settle_36 : decode cX8_settle 36 = .ok (.getfield 74, 3) := by decide +kernel
theorem dX8_settle_39 : decode cX8_settle 39 = .ok (.iload_n 3, 1) := by decide +kernel
theorem dX8_settle_40 : decode cX8_settle 40 = .ok (.iaload, 1) := by decide +kernel
theorem dX8_settle_41 : decode cX8_settle 41 = .ok (.iload_n 1, 1) := by decide +kernel
theorem dX8_settle_42 : decode cX8_settle 42 = .ok (.if_icmp .ne 17, 3) := by decide +kernel
theorem dX8_settle_45 : decode cX8_settle 45 = .ok (.aload_n 0, 1) := by decide +kernel
theorem dX8_settle_46 : decode cX8_settle 46 = .ok (.iload_n 3, 1) := by decide +kernel
theorem dX8_settle_47 : decode cX8_settle 47 = .ok (.invokevirtual 231, 3) := by decide +kernel
theorem dX8_settle_50 : decode cX8_settle 50 = .ok (.aload_n 0, 1) := by decide +kernel
theorem dX8_settle_51 : decode cX8_settle 51 = .ok (.iload_n 3, 1) := by decide +kernel
theorem dX8_settle_52 : decode cX8_settle 52 = .ok (.invokevirtual 228, 3) := by decide +kernel
theorem dX8_settle_55 : decode cX8_settle 55 = .ok (.isub, 1) := by decide +kernel
theorem dX8_settle_56 : decode cX8_settle 56 = .ok (.goto 4, 3) := by decide +kernel
theorem dX8_settle_59 : decode cX8_settle 59 = .ok (.iconst 0, 1) := by decide +kernel
theorem dX8_settle_60 : decode cX8_settle 60 = .ok (.istore 4, 2) := by decide +kernel
theorem dX8_settle_62 : decode cX8_settle 62 = .ok (.iload 4, 2) := by decide +kernel
theorem dX8_settle_64 : decode cX8_settle 64 = .ok (.ifCond .eq 59, 3) := by decide +kernel
theorem dX8_settle_67 : decode cX8_settle 67 = .ok (.aload_n 0, 1) := by decide +kernel
theorem dX8_settle_68 : decode cX8_settle 68 = .ok (.getfield 219, 3) := by decide +kernel
theorem dX8_settle_71 : decode cX8_settle 71 = .ok (.bipush 40, 2) := by decide +kernel
theorem dX8_settle_73 : decode cX8_settle 73 = .ok (.if_icmp .ge 50, 3) := by decide +kernel
theorem dX8_settle_76 : decode cX8_settle 76 = .ok (.aload_n 0, 1) := by decide +kernel
theorem dX8_settle_77 : decode cX8_settle 77 = .ok (.getfield 101, 3) := by decide +kernel
theorem dX8_settle_80 : decode cX8_settle 80 = .ok (.aload_n 0, 1) := by decide +kernel
theorem dX8_settle_81 : decode cX8_settle 81 = .ok (.getfield 219, 3) := by decide +kernel
theorem dX8_settle_84 : decode cX8_settle 84 = .ok (.iload_n 3, 1) := by decide +kernel
theorem dX8_settle_85 : decode cX8_settle 85 = .ok (.iastore, 1) := by decide +kernel
theorem dX8_settle_86 : decode cX8_settle 86 = .ok (.aload_n 0, 1) := by decide +kernel
theorem dX8_settle_87 : decode cX8_settle 87 = .ok (.getfield 104, 3) := by decide +kernel
theorem dX8_settle_90 : decode cX8_settle 90 = .ok (.aload_n 0, 1) := by decide +kernel
theorem dX8_settle_91 : decode cX8_settle 91 = .ok (.getfield 219, 3) := by decide +kernel
theorem dX8_settle_94 : decode cX8_settle 94 = .ok (.iload 4, 2) := by decide +kernel
theorem dX8_settle_96 : decode cX8_settle 96 = .ok (.iastore, 1) := by decide +kernel
theorem dX8_settle_97 : decode cX8_settle 97 = .ok (.aload_n 0, 1) := by decide +kernel
theorem dX8_settle_98 : decode cX8_settle 98 = .ok (.getfield 107, 3) := by decide +kernel
theorem dX8_settle_101 : decode cX8_settle 101 = .ok (.aload_n 0, 1) := by decide +kernel
theorem dX8_settle_102 : decode cX8_settle 102 = .ok (.getfield 219, 3) := by decide +kernel
theorem dX8_settle_105 : decode cX8_settle 105 = .ok (.aload_n 0, 1) := by decide +kernel
theorem dX8_settle_106 : decode cX8_settle 106 = .ok (.getfield 187, 3) := by decide +kernel
theorem dX8_settle_109 : decode cX8_settle 109 = .ok (.iastore, 1) := by decide +kernel
theorem dX8_settle_110 : decode cX8_settle 110 = .ok (.aload_n 0, 1) := by decide +kernel
theorem dX8_settle_111 : decode cX8_settle 111 = .ok (.dup, 1) := by decide +kernel
theorem dX8_settle_112 : decode cX8_settle 112 = .ok (.getfield 219, 3) := by decide +kernel
theorem dX8_settle_115 : decode cX8_settle 115 = .ok (.iconst 1, 1) := by decide +kernel
theorem dX8_settle_116 : decode cX8_settle 116 = .ok (.iadd, 1) := by decide +kernel
theorem dX8_settle_117 : decode cX8_settle 117 = .ok (.putfield 219, 3) := by decide +kernel
theorem dX8_settle_120 : decode cX8_settle 120 = .ok (.iinc 2 1, 3) := by decide +kernel
theorem dX8_settle_123 : decode cX8_settle 123 = .ok (.iinc 3 1, 3) := by decide +kernel
theorem dX8_settle_126 : decode cX8_settle 126 = .ok (.goto (-106), 3) := by decide +kernel
theorem dX8_settle_129 : decode cX8_settle 129 = .ok (.iload_n 2, 1) := by decide +kernel
theorem dX8_settle_130 : decode cX8_settle 130 = .ok (.ireturn, 1) := by decide +kernel
theorem dX8_notes_0 : decode cX8_notes 0 = .ok (.aload_n 0, 1) := by decide +kernel
theorem dX8_notes_1 : decode cX8_notes 1 = .ok (.iconst 0, 1) := by decide +kernel
theorem dX8_notes_2 : decode cX8_notes 2 = .ok (.putfield 110, 3) := by decide +kernel
theorem dX8_notes_5 : decode cX8_notes 5 = .ok (.aload_n 0, 1) := by decide +kernel
theorem dX8_notes_6 : decode cX8_notes 6 = .ok (.getfield 219, 3) := by decide +kernel
theorem dX8_notes_9 : decode cX8_notes 9 = .ok (.ireturn, 1) := by decide +kernel
theorem dX8_note_0 : decode cX8_note 0 = .ok (.aload_n 0, 1) := by decide +kernel
theorem dX8_note_1 : decode cX8_note 1 = .ok (.iload_n 1, 1) := by decide +kernel
theorem dX8_note_2 : decode cX8_note 2 = .ok (.iconst 0, 1) := by decide +kernel
theorem dX8_note_3 : decode cX8_note 3 = .ok (.aload_n 0, 1) := by decide +kernel
theorem dX8_note_4 : decode cX8_note 4 = .ok (.getfield 219, 3) := by decide +kernel
theorem dX8_note_7 : decode cX8_note 7 = .ok (.iconst 1, 1) := by decide +kernel
theorem dX8_note_8 : decode cX8_note 8 = .ok (.isub, 1) := by decide +kernel
theorem dX8_note_9 : decode cX8_note 9 = .ok (.invokestatic 120, 3) := by decide +kernel
theorem dX8_note_12 : decode cX8_note 12 = .ok (.ifCond .ne 7, 3) := by decide +kernel
theorem dX8_note_15 : decode cX8_note 15 = .ok (.iconst 1, 1) := by decide +kernel
theorem dX8_note_16 : decode cX8_note 16 = .ok (.goto 17, 3) := by decide +kernel
theorem dX8_note_19 : decode cX8_note 19 = .ok (.iload_n 2, 1) := by decide +kernel
theorem dX8_note_20 : decode cX8_note 20 = .ok (.iconst 0, 1) := by decide +kernel
theorem dX8_note_21 : decode cX8_note 21 = .ok (.iconst 2, 1) := by decide +kernel
theorem dX8_note_22 : decode cX8_note 22 = .ok (.invokestatic 120, 3) := by decide +kernel
theorem dX8_note_25 : decode cX8_note 25 = .ok (.ifCond .ne 7, 3) := by decide +kernel
theorem dX8_note_28 : decode cX8_note 28 = .ok (.iconst 2, 1) := by decide +kernel
theorem dX8_note_29 : decode cX8_note 29 = .ok (.goto 4, 3) := by decide +kernel
theorem dX8_note_32 : decode cX8_note 32 = .ok (.iconst 0, 1) := by decide +kernel
theorem dX8_note_33 : decode cX8_note 33 = .ok (.putfield 110, 3) := by decide +kernel
theorem dX8_note_36 : decode cX8_note 36 = .ok (.aload_n 0, 1) := by decide +kernel
theorem dX8_note_37 : decode cX8_note 37 = .ok (.getfield 110, 3) := by decide +kernel
theorem dX8_note_40 : decode cX8_note 40 = .ok (.ifCond .le 7, 3) := by decide +kernel
theorem dX8_note_43 : decode cX8_note 43 = .ok (.iconst 0, 1) := by decide +kernel
theorem dX8_note_44 : decode cX8_note 44 = .ok (.goto 36, 3) := by decide +kernel
theorem dX8_note_47 : decode cX8_note 47 = .ok (.iload_n 2, 1) := by decide +kernel
theorem dX8_note_48 : decode cX8_note 48 = .ok (.ifCond .ne 12, 3) := by decide +kernel
theorem dX8_note_51 : decode cX8_note 51 = .ok (.aload_n 0, 1) := by decide +kernel
theorem dX8_note_52 : decode cX8_note 52 = .ok (.getfield 101, 3) := by decide +kernel
theorem dX8_note_55 : decode cX8_note 55 = .ok (.iload_n 1, 1) := by decide +kernel
theorem dX8_note_56 : decode cX8_note 56 = .ok (.iaload, 1) := by decide +kernel
theorem dX8_note_57 : decode cX8_note 57 = .ok (.goto 23, 3) := by decide +kernel
theorem dX8_note_60 : decode cX8_note 60 = .ok (.iload_n 2, 1) := by decide +kernel
theorem dX8_note_61 : decode cX8_note 61 = .ok (.iconst 1, 1) := by decide +kernel
theorem dX8_note_62 : decode cX8_note 62 = .ok (.if_icmp .ne 12, 3) := by decide +kernel
theorem dX8_note_65 : decode cX8_note 65 = .ok (.aload_n 0, 1) := by decide +kernel
theorem dX8_note_66 : decode cX8_note 66 = .ok (.getfield 104, 3) := by decide +kernel
theorem dX8_note_69 : decode cX8_note 69 = .ok (.iload_n 1, 1) := by decide +kernel
theorem dX8_note_70 : decode cX8_note 70 = .ok (.iaload, 1) := by decide +kernel
theorem dX8_note_71 : decode cX8_note 71 = .ok (.goto 9, 3) := by decide +kernel
theorem dX8_note_74 : decode cX8_note 74 = .ok (.aload_n 0, 1) := by decide +kernel
theorem dX8_note_75 : decode cX8_note 75 = .ok (.getfield 107, 3) := by decide +kernel
theorem dX8_note_78 : decode cX8_note 78 = .ok (.iload_n 1, 1) := by decide +kernel
theorem dX8_note_79 : decode cX8_note 79 = .ok (.iaload, 1) := by decide +kernel
theorem dX8_note_80 : decode cX8_note 80 = .ok (.ireturn, 1) := by decide +kernel
theorem dX8_owed_0 : decode cX8_owed 0 = .ok (.aload_n 0, 1) := by decide +kernel
theorem dX8_owed_1 : decode cX8_owed 1 = .ok (.iload_n 1, 1) := by decide +kernel
theorem dX8_owed_2 : decode cX8_owed 2 = .ok (.invokestatic 190, 3) := by decide +kernel
theorem dX8_owed_5 : decode cX8_owed 5 = .ok (.ifCond .eq 7, 3) := by decide +kernel
theorem dX8_owed_8 : decode cX8_owed 8 = .ok (.iconst 0, 1) := by decide +kernel
theorem dX8_owed_9 : decode cX8_owed 9 = .ok (.goto 4, 3) := by decide +kernel
theorem dX8_owed_12 : decode cX8_owed 12 = .ok (.iconst 1, 1) := by decide +kernel
theorem dX8_owed_13 : decode cX8_owed 13 = .ok (.putfield 110, 3) := by decide +kernel
theorem dX8_owed_16 : decode cX8_owed 16 = .ok (.iconst 0, 1) := by decide +kernel
theorem dX8_owed_17 : decode cX8_owed 17 = .ok (.istore_n 2, 1) := by decide +kernel
theorem dX8_owed_18 : decode cX8_owed 18 = .ok (.iconst 0, 1) := by decide +kernel
theorem dX8_owed_19 : decode cX8_owed 19 = .ok (.istore_n 3, 1) := by decide +kernel
theorem dX8_owed_20 : decode cX8_owed 20 = .ok (.iload_n 3, 1) := by decide +kernel
theorem dX8_owed_21 : decode cX8_owed 21 = .ok (.aload_n 0, 1) := by decide +kernel
theorem dX8_owed_22 : decode cX8_owed 22 = .ok (.getfield 210, 3) := by decide +kernel
theorem dX8_owed_25 : decode cX8_owed 25 = .ok (.if_icmp .ge 38, 3) := by decide +kernel
theorem dX8_owed_28 : decode cX8_owed 28 = .ok (.aload_n 0, 1) := by decide +kernel
theorem dX8_owed_29 : decode cX8_owed 29 = .ok (.getfield 110, 3) := by decide +kernel
theorem dX8_owed_32 : decode cX8_owed 32 = .ok (.ifCond .ne 31, 3) := by decide +kernel
theorem dX8_owed_35 : decode cX8_owed 35 = .ok (.iload_n 2, 1) := by decide +kernel
theorem dX8_owed_36 : decode cX8_owed 36 = .ok (.aload_n 0, 1) := by decide +kernel
theorem dX8_owed_37 : decode cX8_owed 37 = .ok (.getfield 74, 3) := by decide +kernel
theorem dX8_owed_40 : decode cX8_owed 40 = .ok (.iload_n 3, 1) := by decide +kernel
theorem dX8_owed_41 : decode cX8_owed 41 = .ok (.iaload, 1) := by decide +kernel
theorem dX8_owed_42 : decode cX8_owed 42 = .ok (.iload_n 1, 1) := by decide +kernel
theorem dX8_owed_43 : decode cX8_owed 43 = .ok (.if_icmp .ne 11, 3) := by decide +kernel
theorem dX8_owed_46 : decode cX8_owed 46 = .ok (.aload_n 0, 1) := by decide +kernel
theorem dX8_owed_47 : decode cX8_owed 47 = .ok (.iload_n 3, 1) := by decide +kernel
theorem dX8_owed_48 : decode cX8_owed 48 = .ok (.invokevirtual 228, 3) := by decide +kernel
theorem dX8_owed_51 : decode cX8_owed 51 = .ok (.goto 4, 3) := by decide +kernel
theorem dX8_owed_54 : decode cX8_owed 54 = .ok (.iconst 0, 1) := by decide +kernel
theorem dX8_owed_55 : decode cX8_owed 55 = .ok (.iadd, 1) := by decide +kernel
theorem dX8_owed_56 : decode cX8_owed 56 = .ok (.istore_n 2, 1) := by decide +kernel
theorem dX8_owed_57 : decode cX8_owed 57 = .ok (.iinc 3 1, 3) := by decide +kernel
theorem dX8_owed_60 : decode cX8_owed 60 = .ok (.goto (-40), 3) := by decide +kernel
theorem dX8_owed_63 : decode cX8_owed 63 = .ok (.iload_n 2, 1) := by decide +kernel
theorem dX8_owed_64 : decode cX8_owed 64 = .ok (.ireturn, 1) := by decide +kernel
