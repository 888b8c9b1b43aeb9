theorem dX6_init_0 : decode cX6_init 0 = .ok (.aload_n 0, 1) := by decide +kernel
theorem dX6_init_1 : decode cX6_init 1 = .ok (.invokespecial 3, 3) := by decide +kernel
theorem dX6_init_4 : decode cX6_init 4 = .ok (.aload_n 0, 1) := by decide +kernel
theorem dX6_init_5 : decode cX6_init 5 = .ok (.bipush 10, 2) := by decide +kernel
theorem dX6_init_7 : decode cX6_init 7 = .ok (.newarray .int, 2) := by decide +kernel
theorem dX6_init_9 : decode cX6_init 9 = .ok (.putfield 11, 3) := by decide +kernel
theorem dX6_init_12 : decode cX6_init 12 = .ok (.return_, 1) := by decide +kernel
theorem dX6_write_0 : decode cX6_write 0 = .ok (.aload_n 0, 1) := by decide +kernel
theorem dX6_write_1 : decode cX6_write 1 = .ok (.iconst 0, 1) := by decide +kernel
theorem dX6_write_2 : decode cX6_write 2 = .ok (.putfield 15, 3) := by decide +kernel
theorem dX6_write_5 : decode cX6_write 5 = .ok (.aload_n 0, 1) := by decide +kernel
theorem dX6_write_6 : decode cX6_write 6 = .ok (.iload_n 3, 1) := by decide +kernel
theorem dX6_write_7 : decode cX6_write 7 = .ok (.putfield 19, 3) := by decide +kernel
theorem dX6_write_10 : decode cX6_write 10 = .ok (.aload_n 0, 1) := by decide +kernel
theorem dX6_write_11 : decode cX6_write 11 = .ok (.bipush 32, 2) := by decide +kernel
theorem dX6_write_13 : decode cX6_write 13 = .ok (.putfield 22, 3) := by decide +kernel
theorem dX6_write_16 : decode cX6_write 16 = .ok (.aload_n 0, 1) := by decide +kernel
theorem dX6_write_17 : decode cX6_write 17 = .ok (.iconst (-1), 1) := by decide +kernel
theorem dX6_write_18 : decode cX6_write 18 = .ok (.putfield 26, 3) := by decide +kernel
theorem dX6_write_21 : decode cX6_write 21 = .ok (.aload_n 0, 1) := by decide +kernel
theorem dX6_write_22 : decode cX6_write 22 = .ok (.lconst 0, 1) := by decide +kernel
theorem dX6_write_23 : decode cX6_write 23 = .ok (.putfield 29, 3) := by decide +kernel
theorem dX6_write_26 : decode cX6_write 26 = .ok (.aload_n 0, 1) := by decide +kernel
theorem dX6_write_27 : decode cX6_write 27 = .ok (.lconst 0, 1) := by decide +kernel
theorem dX6_write_28 : decode cX6_write 28 = .ok (.putfield 33, 3) := by decide +kernel
theorem dX6_write_31 : decode cX6_write 31 = .ok (.iconst 0, 1) := by decide +kernel
theorem dX6_write_32 : decode cX6_write 32 = .ok (.istore 4, 2) := by decide +kernel
theorem dX6_write_34 : decode cX6_write 34 = .ok (.iconst 0, 1) := by decide +kernel
theorem dX6_write_35 : decode cX6_write 35 = .ok (.istore 5, 2) := by decide +kernel
theorem dX6_write_37 : decode cX6_write 37 = .ok (.iload 5, 2) := by decide +kernel
theorem dX6_write_39 : decode cX6_write 39 = .ok (.ldc 36, 2) := by decide +kernel
theorem dX6_write_41 : decode cX6_write 41 = .ok (.if_icmp .ge 28, 3) := by decide +kernel
theorem dX6_write_44 : decode cX6_write 44 = .ok (.iload 4, 2) := by decide +kernel
theorem dX6_write_46 : decode cX6_write 46 = .ok (.aload_n 2, 1) := by decide +kernel
theorem dX6_write_47 : decode cX6_write 47 = .ok (.getfield 37, 3) := by decide +kernel
theorem dX6_write_50 : decode cX6_write 50 = .ok (.if_icmp .ge 19, 3) := by decide +kernel
theorem dX6_write_53 : decode cX6_write 53 = .ok (.aload_n 0, 1) := by decide +kernel
theorem dX6_write_54 : decode cX6_write 54 = .ok (.aload_n 1, 1) := by decide +kernel
theorem dX6_write_55 : decode cX6_write 55 = .ok (.aload_n 2, 1) := by decide +kernel
theorem dX6_write_56 : decode cX6_write 56 = .ok (.iload 4, 2) := by decide +kernel
theorem dX6_write_58 : decode cX6_write 58 = .ok (.invokevirtual 42, 3) := by decide +kernel
theorem dX6_write_61 : decode cX6_write 61 = .ok (.istore 4, 2) := by decide +kernel
theorem dX6_write_63 : decode cX6_write 63 = .ok (.iinc 5 1, 3) := by decide +kernel
theorem dX6_write_66 : decode cX6_write 66 = .ok (.goto (-29), 3) := by decide +kernel
theorem dX6_write_69 : decode cX6_write 69 = .ok (.return_, 1) := by decide +kernel
theorem dX6_step_0 : decode cX6_step 0 = .ok (.aload_n 2, 1) := by decide +kernel
theorem dX6_step_1 : decode cX6_step 1 = .ok (.getfield 46, 3) := by decide +kernel
theorem dX6_step_4 : decode cX6_step 4 = .ok (.iload_n 3, 1) := by decide +kernel
theorem dX6_step_5 : decode cX6_step 5 = .ok (.invokestatic 49, 3) := by decide +kernel
theorem dX6_step_8 : decode cX6_step 8 = .ok (.istore 4, 2) := by decide +kernel
theorem dX6_step_10 : decode cX6_step 10 = .ok (.aload_n 2, 1) := by decide +kernel
theorem dX6_step_11 : decode cX6_step 11 = .ok (.getfield 53, 3) := by decide +kernel
theorem dX6_step_14 : decode cX6_step 14 = .ok (.iload_n 3, 1) := by decide +kernel
theorem dX6_step_15 : decode cX6_step 15 = .ok (.invokestatic 49, 3) := by decide +kernel
theorem dX6_step_18 : decode cX6_step 18 = .ok (.istore 5, 2) := by decide +kernel
theorem dX6_step_20 : decode cX6_step 20 = .ok (.aload_n 2, 1) := by decide +kernel
theorem dX6_step_21 : decode cX6_step 21 = .ok (.getfield 56, 3) := by decide +kernel
theorem dX6_step_24 : decode cX6_step 24 = .ok (.iload_n 3, 1) := by decide +kernel
theorem dX6_step_25 : decode cX6_step 25 = .ok (.invokestatic 49, 3) := by decide +kernel
theorem dX6_step_28 : decode cX6_step 28 = .ok (.tableswitch 200 0 7 #[48, 59, 80, 116, 152, 169, 188, 191], 48) := by decide +kernel
theorem dX6_step_76 : decode cX6_step 76 = .ok (.aload_n 0, 1) := by decide +kernel
theorem dX6_step_77 : decode cX6_step 77 = .ok (.iload 4, 2) := by decide +kernel
theorem dX6_step_79 : decode cX6_step 79 = .ok (.i2c, 1) := by decide +kernel
theorem dX6_step_80 : decode cX6_step 80 = .ok (.invokevirtual 59, 3) := by decide +kernel
theorem dX6_step_83 : decode cX6_step 83 = .ok (.iload_n 3, 1) := by decide +kernel
theorem dX6_step_84 : decode cX6_step 84 = .ok (.iconst 1, 1) := by decide +kernel
theorem dX6_step_85 : decode cX6_step 85 = .ok (.iadd, 1) := by decide +kernel
theorem dX6_step_86 : decode cX6_step 86 = .ok (.ireturn, 1) := by decide +kernel
theorem dX6_step_87 : decode cX6_step 87 = .ok (.aload_n 0, 1) := by decide +kernel
theorem dX6_step_88 : decode cX6_step 88 = .ok (.aload_n 1, 1) := by decide +kernel
theorem dX6_step_89 : decode cX6_step 89 = .ok (.iload 4, 2) := by decide +kernel
theorem dX6_step_91 : decode cX6_step 91 = .ok (.i2c, 1) := by decide +kernel
theorem dX6_step_92 : decode cX6_step 92 = .ok (.aload_n 0, 1) := by decide +kernel
theorem dX6_step_93 : decode cX6_step 93 = .ok (.getfield 26, 3) := by decide +kernel
theorem dX6_step_96 : decode cX6_step 96 = .ok (.invokevirtual 63, 3) := by decide +kernel
theorem dX6_step_99 : decode cX6_step 99 = .ok (.iload 5, 2) := by decide +kernel
theorem dX6_step_101 : decode cX6_step 101 = .ok (.invokevirtual 69, 3) := by decide +kernel
theorem dX6_step_104 : decode cX6_step 104 = .ok (.iload_n 3, 1) := by decide +kernel
theorem dX6_step_105 : decode cX6_step 105 = .ok (.iconst 1, 1) := by decide +kernel
theorem dX6_step_106 : decode cX6_step 106 = .ok (.iadd, 1) := by decide +kernel
theorem dX6_step_107 : decode cX6_step 107 = .ok (.ireturn, 1) := by decide +kernel
theorem dX6_step_108 : decode cX6_step 108 = .ok (.aload_n 0, 1) := by decide +kernel
theorem dX6_step_109 : decode cX6_step 109 = .ok (.dup, 1) := by decide +kernel
theorem dX6_step_110 : decode cX6_step 110 = .ok (.getfield 33, 3) := by decide +kernel
theorem dX6_step_113 : decode cX6_step 113 = .ok (.iload 4, 2) := by decide +kernel
theorem dX6_step_115 : decode cX6_step 115 = .ok (.ifCond .ne 9, 3) := by decide +kernel
theorem dX6_step_118 : decode cX6_step 118 = .ok (.iload 5, 2) := by decide +kernel
theorem dX6_step_120 : decode cX6_step 120 = .ok (.i2l, 1) := by decide +kernel
theorem dX6_step_121 : decode cX6_step 121 = .ok (.goto 15, 3) := by decide +kernel
theorem dX6_step_124 : decode cX6_step 124 = .ok (.aload_n 1, 1) := by decide +kernel
theorem dX6_step_125 : decode cX6_step 125 = .ok (.iload 4, 2) := by decide +kernel
theorem dX6_step_127 : decode cX6_step 127 = .ok (.i2c, 1) := by decide +kernel
theorem dX6_step_128 : decode cX6_step 128 = .ok (.aload_n 0, 1) := by decide +kernel
theorem dX6_step_129 : decode cX6_step 129 = .ok (.getfield 26, 3) := by decide +kernel
theorem dX6_step_132 : decode cX6_step 132 = .ok (.invokevirtual 63, 3) := by decide +kernel
theorem dX6_step_135 : decode cX6_step 135 = .ok (.i2l, 1) := by decide +kernel
theorem dX6_step_136 : decode cX6_step 136 = .ok (.ladd, 1) := by decide +kernel
theorem dX6_step_137 : decode cX6_step 137 = .ok (.putfield 33, 3) := by decide +kernel
theorem dX6_step_140 : decode cX6_step 140 = .ok (.iload_n 3, 1) := by decide +kernel
theorem dX6_step_141 : decode cX6_step 141 = .ok (.iconst 1, 1) := by decide +kernel
theorem dX6_step_142 : decode cX6_step 142 = .ok (.iadd, 1) := by decide +kernel
theorem dX6_step_143 : decode cX6_step 143 = .ok (.ireturn, 1) := by decide +kernel
theorem dX6_step_144 : decode cX6_step 144 = .ok (.aload_n 0, 1) := by decide +kernel
theorem dX6_step_145 : decode cX6_step 145 = .ok (.dup, 1) := by decide +kernel
theorem dX6_step_146 : decode cX6_step 146 = .ok (.getfield 33, 3) := by decide +kernel
theorem dX6_step_149 : decode cX6_step 149 = .ok (.iload 4, 2) := by decide +kernel
theorem dX6_step_151 : decode cX6_step 151 = .ok (.ifCond .ne 9, 3) := by decide +kernel
theorem dX6_step_154 : decode cX6_step 154 = .ok (.iload 5, 2) := by decide +kernel
theorem dX6_step_156 : decode cX6_step 156 = .ok (.i2l, 1) := by decide +kernel
theorem dX6_step_157 : decode cX6_step 157 = .ok (.goto 15, 3) := by decide +kernel
theorem dX6_step_160 : decode cX6_step 160 = .ok (.aload_n 1, 1) := by decide +kernel
theorem dX6_step_161 : decode cX6_step 161 = .ok (.iload 4, 2) := by decide +kernel
theorem dX6_step_163 : decode cX6_step 163 = .ok (.i2c, 1) := by decide +kernel
theorem dX6_step_164 : decode cX6_step 164 = .ok (.aload_n 0, 1) := by decide +kernel
theorem dX6_step_165 : decode cX6_step 165 = .ok (.getfield 26, 3) := by decide +kernel
theorem dX6_step_168 : decode cX6_step 168 = .ok (.invokevirtual 63, 3) := by decide +kernel
theorem dX6_step_171 : decode cX6_step 171 = .ok (.i2l, 1) := by decide +kernel
theorem dX6_step_172 : decode cX6_step 172 = .ok (.lsub, 1) := by decide +kernel
theorem dX6_step_173 : decode cX6_step 173 = .ok (.putfield 33, 3) := by decide +kernel
theorem dX6_step_176 : decode cX6_step 176 = .ok (.iload_n 3, 1) := by decide +kernel
theorem dX6_step_177 : decode cX6_step 177 = .ok (.iconst 1, 1) := by decide +kernel
theorem dX6_step_178 : decode cX6_step 178 = .ok (.iadd, 1) := by decide +kernel
theorem dX6_step_179 : decode cX6_step 179 = .ok (.ireturn, 1) := by decide +kernel
theorem dX6_step_180 : decode cX6_step 180 = .ok (.aload_n 0, 1) := by decide +kernel
theorem dX6_step_181 : decode cX6_step 181 = .ok (.aload_n 0, 1) := by decide +kernel
theorem dX6_step_182 : decode cX6_step 182 = .ok (.getfield 33, 3) := by decide +kernel
theorem dX6_step_185 : decode cX6_step 185 = .ok (.putfield 29, 3) := by decide +kernel
theorem dX6_step_188 : decode cX6_step 188 = .ok (.aload_n 0, 1) := by decide +kernel
theorem dX6_step_189 : decode cX6_step 189 = .ok (.lconst 0, 1) := by decide +kernel
theorem dX6_step_190 : decode cX6_step 190 = .ok (.putfield 33, 3) := by decide +kernel
theorem dX6_step_193 : decode cX6_step 193 = .ok (.iload_n 3, 1) := by decide +kernel
theorem dX6_step_194 : decode cX6_step 194 = .ok (.iconst 1, 1) := by decide +kernel
theorem dX6_step_195 : decode cX6_step 195 = .ok (.iadd, 1) := by decide +kernel
theorem dX6_step_196 : decode cX6_step 196 = .ok (.ireturn, 1) := by decide +kernel
theorem dX6_step_197 : decode cX6_step 197 = .ok (.aload_n 0, 1) := by decide +kernel
theorem dX6_step_198 : decode cX6_step 198 = .ok (.iload 4, 2) := by decide +kernel
theorem dX6_step_200 : decode cX6_step 200 = .ok (.i2c, 1) := by decide +kernel
theorem dX6_step_201 : decode cX6_step 201 = .ok (.invokevirtual 73, 3) := by decide +kernel
theorem dX6_step_204 : decode cX6_step 204 = .ok (.ifCond .eq 9, 3) := by decide +kernel
theorem dX6_step_207 : decode cX6_step 207 = .ok (.iload_n 3, 1) := by decide +kernel
theorem dX6_step_208 : decode cX6_step 208 = .ok (.iconst 1, 1) := by decide +kernel
theorem dX6_step_209 : decode cX6_step 209 = .ok (.iadd, 1) := by decide +kernel
theorem dX6_step_210 : decode cX6_step 210 = .ok (.goto 5, 3) := by decide +kernel
theorem dX6_step_213 : decode cX6_step 213 = .ok (.iload 5, 2) := by decide +kernel
theorem dX6_step_215 : decode cX6_step 215 = .ok (.ireturn, 1) := by decide +kernel
theorem dX6_step_216 : decode cX6_step 216 = .ok (.iload 5, 2) := by decide +kernel
theorem dX6_step_218 : decode cX6_step 218 = .ok (.ireturn, 1) := by decide +kernel
theorem dX6_step_219 : decode cX6_step 219 = .ok (.aload_n 0, 1) := by decide +kernel
theorem dX6_step_220 : decode cX6_step 220 = .ok (.iconst 0, 1) := by decide +kernel
theorem dX6_step_221 : decode cX6_step 221 = .ok (.putfield 26, 3) := by decide +kernel
theorem dX6_step_224 : decode cX6_step 224 = .ok (.iload_n 3, 1) := by decide +kernel
theorem dX6_step_225 : decode cX6_step 225 = .ok (.iconst 1, 1) := by decide +kernel
theorem dX6_step_226 : decode cX6_step 226 = .ok (.iadd, 1) := by decide +kernel
theorem dX6_step_227 : decode cX6_step 227 = .ok (.ireturn, 1) := by decide +kernel
theorem dX6_step_228 : decode cX6_step 228 = .ok (.aload_n 0, 1) := by decide +kernel
theorem dX6_step_229 : decode cX6_step 229 = .ok (.aload_n 1, 1) := by decide +kernel
theorem dX6_step_230 : decode cX6_step 230 = .ok (.invokevirtual 77, 3) := by decide +kernel
theorem dX6_step_233 : decode cX6_step 233 = .ok (.ifCond .eq 8, 3) := by decide +kernel
theorem dX6_step_236 : decode cX6_step 236 = .ok (.iload 5, 2) := by decide +kernel
theorem dX6_step_238 : decode cX6_step 238 = .ok (.goto 6, 3) := by decide +kernel
theorem dX6_step_241 : decode cX6_step 241 = .ok (.iload_n 3, 1) := by decide +kernel
theorem dX6_step_242 : decode cX6_step 242 = .ok (.iconst 1, 1) := by decide +kernel
theorem dX6_step_243 : decode cX6_step 243 = .ok (.iadd, 1) := by decide +kernel
theorem dX6_step_244 : decode cX6_step 244 = .ok (.ireturn, 1) := by decide +kernel
theorem dX6_compareSums_0 : decode cX6_compareSums 0 = .ok (.aload_n 0, 1) := by decide +kernel
theorem dX6_compareSums_1 : decode cX6_compareSums 1 = .ok (.getfield 33, 3) := by decide +kernel
theorem dX6_compareSums_4 : decode cX6_compareSums 4 = .ok (.lstore_n 2, 1) := by decide +kernel
theorem dX6_compareSums_5 : decode cX6_compareSums 5 = .ok (.aload_n 0, 1) := by decide +kernel
theorem dX6_compareSums_6 : decode cX6_compareSums 6 = .ok (.lconst 0, 1) := by decide +kernel
theorem dX6_compareSums_7 : decode cX6_compareSums 7 = .ok (.putfield 33, 3) := by decide +kernel
theorem dX6_compareSums_10 : decode cX6_compareSums 10 = .ok (.iload_n 1, 1) := by decide +kernel
theorem dX6_compareSums_11 : decode cX6_compareSums 11 = .ok (.lookupswitch 55 #[(60, 25), (62, 40)], 25) := by decide +kernel
theorem dX6_compareSums_36 : decode cX6_compareSums 36 = .ok (.aload_n 0, 1) := by decide +kernel
theorem dX6_compareSums_37 : decode cX6_compareSums 37 = .ok (.getfield 29, 3) := by decide +kernel
theorem dX6_compareSums_40 : decode cX6_compareSums 40 = .ok (.lload_n 2, 1) := by decide +kernel
theorem dX6_compareSums_41 : decode cX6_compareSums 41 = .ok (.lcmp, 1) := by decide +kernel
theorem dX6_compareSums_42 : decode cX6_compareSums 42 = .ok (.ifCond .ge 7, 3) := by decide +kernel
theorem dX6_compareSums_45 : decode cX6_compareSums 45 = .ok (.iconst 1, 1) := by decide +kernel
theorem dX6_compareSums_46 : decode cX6_compareSums 46 = .ok (.goto 4, 3) := by decide +kernel
theorem dX6_compareSums_49 : decode cX6_compareSums 49 = .ok (.iconst 0, 1) := by decide +kernel
theorem dX6_compareSums_50 : decode cX6_compareSums 50 = .ok (.ireturn, 1) := by decide +kernel
theorem dX6_compareSums_51 : decode cX6_compareSums 51 = .ok (.aload_n 0, 1) := by decide +kernel
theorem dX6_compareSums_52 : decode cX6_compareSums 52 = .ok (.getfield 29, 3) := by decide +kernel
theorem dX6_compareSums_55 : decode cX6_compareSums 55 = .ok (.lload_n 2, 1) := by decide +kernel
theorem dX6_compareSums_56 : decode cX6_compareSums 56 = .ok (.lcmp, 1) := by decide +kernel
theorem dX6_compareSums_57 : decode cX6_compareSums 57 = .ok (.ifCond .le 7, 3) := by decide +kernel
theorem dX6_compareSums_60 : decode cX6_compareSums 60 = .ok (.iconst 1, 1) := by decide +kernel
theorem dX6_compareSums_61 : decode cX6_compareSums 61 = .ok (.goto 4, 3) := by decide +kernel
theorem dX6_compareSums_64 : decode cX6_compareSums 64 = .ok (.iconst 0, 1) := by decide +kernel
theorem dX6_compareSums_65 : decode cX6_compareSums 65 = .ok (.ireturn, 1) := by decide +kernel
theorem dX6_compareSums_66 : decode cX6_compareSums 66 = .ok (.aload_n 0, 1) := by decide +kernel
theorem dX6_compareSums_67 : decode cX6_compareSums 67 = .ok (.getfield 29, 3) := by decide +kernel
theorem dX6_compareSums_70 : decode cX6_compareSums 70 = .ok (.lload_n 2, 1) := by decide +kernel
theorem dX6_compareSums_71 : decode cX6_compareSums 71 = .ok (.lcmp, 1) := by decide +kernel
theorem dX6_compareSums_72 : decode cX6_compareSums 72 = .ok (.ifCond .ne 7, 3) := by decide +kernel
theorem dX6_compareSums_75 : decode cX6_compareSums 75 = .ok (.iconst 1, 1) := by decide +kernel
theorem dX6_compareSums_76 : decode cX6_compareSums 76 = .ok (.goto 4, 3) := by decide +kernel
theorem dX6_compareSums_79 : decode cX6_compareSums 79 = .ok (.iconst 0, 1) := by decide +kernel
theorem dX6_compareSums_80 : decode cX6_compareSums 80 = .ok (.ireturn, 1) := by decide +kernel
theorem dX6_nextLine_0 : decode cX6_nextLine 0 = .ok (.aload_n 0, 1) := by decide +kernel
theorem dX6_nextLine_1 : decode cX6_nextLine 1 = .ok (.dup, 1) := by decide +kernel
theorem dX6_nextLine_2 : decode cX6_nextLine 2 = .ok (.getfield 26, 3) := by decide +kernel
theorem dX6_nextLine_5 : decode cX6_nextLine 5 = .ok (.iconst 1, 1) := by decide +kernel
theorem dX6_nextLine_6 : decode cX6_nextLine 6 = .ok (.iadd, 1) := by decide +kernel
theorem dX6_nextLine_7 : decode cX6_nextLine 7 = .ok (.putfield 26, 3) := by decide +kernel
theorem dX6_nextLine_10 : decode cX6_nextLine 10 = .ok (.aload_n 1, 1) := by decide +kernel
theorem dX6_nextLine_11 : decode cX6_nextLine 11 = .ok (.aload_n 0, 1) := by decide +kernel
theorem dX6_nextLine_12 : decode cX6_nextLine 12 = .ok (.getfield 26, 3) := by decide +kernel
theorem dX6_nextLine_15 : decode cX6_nextLine 15 = .ok (.invokevirtual 81, 3) := by decide +kernel
theorem dX6_nextLine_18 : decode cX6_nextLine 18 = .ok (.istore_n 2, 1) := by decide +kernel
theorem dX6_nextLine_19 : decode cX6_nextLine 19 = .ok (.iload_n 2, 1) := by decide +kernel
theorem dX6_nextLine_20 : decode cX6_nextLine 20 = .ok (.ifCond .ne 8, 3) := by decide +kernel
theorem dX6_nextLine_23 : decode cX6_nextLine 23 = .ok (.aload_n 0, 1) := by decide +kernel
theorem dX6_nextLine_24 : decode cX6_nextLine 24 = .ok (.iconst (-1), 1) := by decide +kernel
theorem dX6_nextLine_25 : decode cX6_nextLine 25 = .ok (.putfield 26, 3) := by decide +kernel
theorem dX6_nextLine_28 : decode cX6_nextLine 28 = .ok (.iload_n 2, 1) := by decide +kernel
theorem dX6_nextLine_29 : decode cX6_nextLine 29 = .ok (.ireturn, 1) := by decide +kernel
theorem dX6_put_0 : decode cX6_put 0 = .ok (.aload_n 0, 1) := by decide +kernel
theorem dX6_put_1 : decode cX6_put 1 = .ok (.getfield 15, 3) := by decide +kernel
theorem dX6_put_4 : decode cX6_put 4 = .ok (.aload_n 0, 1) := by decide +kernel
theorem dX6_put_5 : decode cX6_put 5 = .ok (.getfield 19, 3) := by decide +kernel
theorem dX6_put_8 : decode cX6_put 8 = .ok (.if_icmp .ne 8, 3) := by decide +kernel
theorem dX6_put_11 : decode cX6_put 11 = .ok (.aload_n 0, 1) := by decide +kernel
theorem dX6_put_12 : decode cX6_put 12 = .ok (.iload_n 1, 1) := by decide +kernel
theorem dX6_put_13 : decode cX6_put 13 = .ok (.putfield 22, 3) := by decide +kernel
theorem dX6_put_16 : decode cX6_put 16 = .ok (.aload_n 0, 1) := by decide +kernel
theorem dX6_put_17 : decode cX6_put 17 = .ok (.dup, 1) := by decide +kernel
theorem dX6_put_18 : decode cX6_put 18 = .ok (.getfield 15, 3) := by decide +kernel
theorem dX6_put_21 : decode cX6_put 21 = .ok (.iconst 1, 1) := by decide +kernel
theorem dX6_put_22 : decode cX6_put 22 = .ok (.iadd, 1) := by decide +kernel
theorem dX6_put_23 : decode cX6_put 23 = .ok (.putfield 15, 3) := by decide +kernel
theorem dX6_put_26 : decode cX6_put 26 = .ok (.return_, 1) := by decide +kernel
theorem dX6_putNumber_0 : decode cX6_putNumber 0 = .ok (.iload_n 1, 1) := by decide +kernel
theorem dX6_putNumber_1 : decode cX6_putNumber 1 = .ok (.ifCond .ge 7, 3) := by decide +kernel
theorem dX6_putNumber_4 : decode cX6_putNumber 4 = .ok (.iconst 1, 1) := by decide +kernel
theorem dX6_putNumber_5 : decode cX6_putNumber 5 = .ok (.goto 4, 3) := by decide +kernel
theorem dX6_putNumber_8 : decode cX6_putNumber 8 = .ok (.iconst 0, 1) := by decide +kernel
theorem dX6_putNumber_9 : decode cX6_putNumber 9 = .ok (.istore_n 3, 1) := by decide +kernel
theorem dX6_putNumber_10 : decode cX6_putNumber 10 = .ok (.iload_n 3, 1) := by decide +kernel
theorem dX6_putNumber_11 : decode cX6_putNumber 11 = .ok (.ifCond .eq 9, 3) := by decide +kernel
theorem dX6_putNumber_14 : decode cX6_putNumber 14 = .ok (.iload_n 1, 1) := by decide +kernel
theorem dX6_putNumber_15 : decode cX6_putNumber 15 = .ok (.i2l, 1) := by decide +kernel
theorem dX6_putNumber_16 : decode cX6_putNumber 16 = .ok (.lneg, 1) := by decide +kernel
theorem dX6_putNumber_17 : decode cX6_putNumber 17 = .ok (.goto 5, 3) := by decide +kernel
theorem dX6_putNumber_20 : decode cX6_putNumber 20 = .ok (.iload_n 1, 1) := by decide +kernel
theorem dX6_putNumber_21 : decode cX6_putNumber 21 = .ok (.i2l, 1) := by decide +kernel
theorem dX6_putNumber_22 : decode cX6_putNumber 22 = .ok (.lstore 4, 2) := by decide +kernel
theorem dX6_putNumber_24 : decode cX6_putNumber 24 = .ok (.iconst 0, 1) := by decide +kernel
theorem dX6_putNumber_25 : decode cX6_putNumber 25 = .ok (.istore 6, 2) := by decide +kernel
theorem dX6_putNumber_27 : decode cX6_putNumber 27 = .ok (.aload_n 0, 1) := by decide +kernel
theorem dX6_putNumber_28 : decode cX6_putNumber 28 = .ok (.getfield 11, 3) := by decide +kernel
theorem dX6_putNumber_31 : decode cX6_putNumber 31 = .ok (.iload 6, 2) := by decide +kernel
theorem dX6_putNumber_33 : decode cX6_putNumber 33 = .ok (.lload 4, 2) := by decide +kernel
theorem dX6_putNumber_35 : decode cX6_putNumber 35 = .ok (.ldc2_w 85, 3) := by decide +kernel
theorem dX6_putNumber_38 : decode cX6_putNumber 38 = .ok (.lrem, 1) := by decide +kernel
theorem dX6_putNumber_39 : decode cX6_putNumber 39 = .ok (.l2i, 1) := by decide +kernel
theorem dX6_putNumber_40 : decode cX6_putNumber 40 = .ok (.invokestatic 87, 3) := by decide +kernel
theorem dX6_putNumber_43 : decode cX6_putNumber 43 = .ok (.iinc 6 1, 3) := by decide +kernel
theorem dX6_putNumber_46 : decode cX6_putNumber 46 = .ok (.lload 4, 2) := by decide +kernel
theorem dX6_putNumber_48 : decode cX6_putNumber 48 = .ok (.ldc2_w 85, 3) := by decide +kernel
theorem dX6_putNumber_51 : decode cX6_putNumber 51 = .ok (.ldiv, 1) := by decide +kernel
theorem dX6_putNumber_52 : decode cX6_putNumber 52 = .ok (.lstore 4, 2) := by decide +kernel
theorem dX6_putNumber_54 : decode cX6_putNumber 54 = .ok (.lload 4, 2) := by decide +kernel
theorem dX6_putNumber_56 : decode cX6_putNumber 56 = .ok (.lconst 0, 1) := by decide +kernel
theorem dX6_putNumber_57 : decode cX6_putNumber 57 = .ok (.lcmp, 1) := by decide +kernel
theorem dX6_putNumber_58 : decode cX6_putNumber 58 = .ok (.ifCond .le 10, 3) := by decide +kernel
theorem dX6_putNumber_61 : decode cX6_putNumber 61 = .ok (.iload 6, 2) := by decide +kernel
theorem dX6_putNumber_63 : decode cX6_putNumber 63 = .ok (.bipush 10, 2) := by decide +kernel
theorem dX6_putNumber_65 : decode cX6_putNumber 65 = .ok (.if_icmp .lt (-38), 3) := by decide +kernel
theorem dX6_putNumber_68 : decode cX6_putNumber 68 = .ok (.iload_n 3, 1) := by decide +kernel
theorem dX6_putNumber_69 : decode cX6_putNumber 69 = .ok (.ifCond .eq 10, 3) := by decide +kernel
theorem dX6_putNumber_72 : decode cX6_putNumber 72 = .ok (.iload 6, 2) := by decide +kernel
theorem dX6_putNumber_74 : decode cX6_putNumber 74 = .ok (.iconst 1, 1) := by decide +kernel
theorem dX6_putNumber_75 : decode cX6_putNumber 75 = .ok (.iadd, 1) := by decide +kernel
theorem dX6_putNumber_76 : decode cX6_putNumber 76 = .ok (.goto 5, 3) := by decide +kernel
theorem dX6_putNumber_79 : decode cX6_putNumber 79 = .ok (.iload 6, 2) := by decide +kernel
theorem dX6_putNumber_81 : decode cX6_putNumber 81 = .ok (.istore 7, 2) := by decide +kernel
theorem dX6_putNumber_83 : decode cX6_putNumber 83 = .ok (.iload 7, 2) := by decide +kernel
theorem dX6_putNumber_85 : decode cX6_putNumber 85 = .ok (.iload_n 2, 1) := by decide +kernel
theorem dX6_putNumber_86 : decode cX6_putNumber 86 = .ok (.if_icmp .ge 15, 3) := by decide +kernel
theorem dX6_putNumber_89 : decode cX6_putNumber 89 = .ok (.aload_n 0, 1) := by decide +kernel
theorem dX6_putNumber_90 : decode cX6_putNumber 90 = .ok (.bipush 32, 2) := by decide +kernel
theorem dX6_putNumber_92 : decode cX6_putNumber 92 = .ok (.invokevirtual 59, 3) := by decide +kernel
theorem dX6_putNumber_95 : decode cX6_putNumber 95 = .ok (.iinc 7 1, 3) := by decide +kernel
theorem dX6_putNumber_98 : decode cX6_putNumber 98 = .ok (.goto (-15), 3) := by decide +kernel
theorem dX6_putNumber_101 : decode cX6_putNumber 101 = .ok (.iload_n 3, 1) := by decide +kernel
theorem dX6_putNumber_102 : decode cX6_putNumber 102 = .ok (.ifCond .eq 9, 3) := by decide +kernel
theorem dX6_putNumber_105 : decode cX6_putNumber 105 = .ok (.aload_n 0, 1) := by decide +kernel
theorem dX6_putNumber_106 : decode cX6_putNumber 106 = .ok (.bipush 45, 2) := by decide +kernel
theorem dX6_putNumber_108 : decode cX6_putNumber 108 = .ok (.invokevirtual 59, 3) := by decide +kernel
theorem dX6_putNumber_111 : decode cX6_putNumber 111 = .ok (.iload 6, 2) := by decide +kernel
theorem dX6_putNumber_113 : decode cX6_putNumber 113 = .ok (.iconst 1, 1) := by decide +kernel
theorem dX6_putNumber_114 : decode cX6_putNumber 114 = .ok (.isub, 1) := by decide +kernel
theorem dX6_putNumber_115 : decode cX6_putNumber 115 = .ok (.istore 7, 2) := by decide +kernel
theorem dX6_putNumber_117 : decode cX6_putNumber 117 = .ok (.iload 7, 2) := by decide +kernel
theorem dX6_putNumber_119 : decode cX6_putNumber 119 = .ok (.ifCond .lt 26, 3) := by decide +kernel
theorem dX6_putNumber_122 : decode cX6_putNumber 122 = .ok (.aload_n 0, 1) := by decide +kernel
theorem dX6_putNumber_123 : decode cX6_putNumber 123 = .ok (.bipush 48, 2) := by decide +kernel
theorem dX6_putNumber_125 : decode cX6_putNumber 125 = .ok (.aload_n 0, 1) := by decide +kernel
theorem dX6_putNumber_126 : decode cX6_putNumber 126 = .ok (.getfield 11, 3) := by decide +kernel
theorem dX6_putNumber_129 : decode cX6_putNumber 129 = .ok (.iload 7, 2) := by decide +kernel
theorem dX6_putNumber_131 : decode cX6_putNumber 131 = .ok (.invokestatic 49, 3) := by decide +kernel
theorem dX6_putNumber_134 : decode cX6_putNumber 134 = .ok (.iadd, 1) := by decide +kernel
theorem dX6_putNumber_135 : decode cX6_putNumber 135 = .ok (.i2c, 1) := by decide +kernel
theorem dX6_putNumber_136 : decode cX6_putNumber 136 = .ok (.invokevirtual 59, 3) := by decide +kernel
theorem dX6_putNumber_139 : decode cX6_putNumber 139 = .ok (.iinc 7 (-1), 3) := by decide +kernel
theorem dX6_putNumber_142 : decode cX6_putNumber 142 = .ok (.goto (-25), 3) := by decide +kernel
theorem dX6_putNumber_145 : decode cX6_putNumber 145 = .ok (.return_, 1) := by decide +kernel
theorem dX7_init_0 : decode cX7_init 0 = .ok (.aload_n 0, 1) := by decide +kernel
theorem dX7_init_1 : decode cX7_init 1 = .ok (.invokespecial 1, 3) := by decide +kernel
theorem dX7_init_4 : decode cX7_init 4 = .ok (.aload_n 0, 1) := by decide +kernel
theorem dX7_init_5 : decode cX7_init 5 = .ok (.new 7, 3) := by decide +kernel
theorem dX7_init_8 : decode cX7_init 8 = .ok (.dup, 1) := by decide +kernel
theorem dX7_init_9 : decode cX7_init 9 = .ok (.invokespecial 9, 3) := by decide +kernel
theorem dX7_init_12 : decode cX7_init 12 = .ok (.putfield 10, 3) := by decide +kernel
theorem dX7_init_15 : decode cX7_init 15 = .ok (.aload_n 0, 1) := by decide +kernel
theorem dX7_init_16 : decode cX7_init 16 = .ok (.new 16, 3) := by decide +kernel
theorem dX7_init_19 : decode cX7_init 19 = .ok (.dup, 1) := by decide +kernel
theorem dX7_init_20 : decode cX7_init 20 = .ok (.invokespecial 18, 3) := by decide +kernel
theorem dX7_init_23 : decode cX7_init 23 = .ok (.putfield 19, 3) := by decide +kernel
theorem dX7_init_26 : decode cX7_init 26 = .ok (.aload_n 0, 1) := by decide +kernel
theorem dX7_init_27 : decode cX7_init 27 = .ok (.bipush 6, 2) := by decide +kernel
theorem dX7_init_29 : decode cX7_init 29 = .ok (.anewarray 23, 3) := by decide +kernel
theorem dX7_init_32 : decode cX7_init 32 = .ok (.putfield 25, 3) := by decide +kernel
theorem dX7_init_35 : decode cX7_init 35 = .ok (.aload_n 0, 1) := by decide +kernel
theorem dX7_init_36 : decode cX7_init 36 = .ok (.new 29, 3) := by decide +kernel
theorem dX7_init_39 : decode cX7_init 39 = .ok (.dup, 1) := by decide +kernel
theorem dX7_init_40 : decode cX7_init 40 = .ok (.invokespecial 31, 3) := by decide +kernel
theorem dX7_init_43 : decode cX7_init 43 = .ok (.putfield 32, 3) := by decide +kernel
theorem dX7_init_46 : decode cX7_init 46 = .ok (.aload_n 0, 1) := by decide +kernel
theorem dX7_init_47 : decode cX7_init 47 = .ok (.iconst 4, 1) := by decide +kernel
theorem dX7_init_48 : decode cX7_init 48 = .ok (.newarray .int, 2) := by decide +kernel
theorem dX7_init_50 : decode cX7_init 50 = .ok (.putfield 36, 3) := by decide +kernel
theorem dX7_init_53 : decode cX7_init 53 = .ok (.aload_n 0, 1) := by decide +kernel
theorem dX7_init_54 : decode cX7_init 54 = .ok (.bipush 10, 2) := by decide +kernel
theorem dX7_init_56 : decode cX7_init 56 = .ok (.newarray .int, 2) := by decide +kernel
theorem dX7_init_58 : decode cX7_init 58 = .ok (.putfield 40, 3) := by decide +kernel
theorem dX7_init_61 : decode cX7_init 61 = .ok (.aload_n 0, 1) := by decide +kernel
theorem dX7_init_62 : decode cX7_init 62 = .ok (.new 43, 3) := by decide +kernel
theorem dX7_init_65 : decode cX7_init 65 = .ok (.dup, 1) := by decide +kernel
theorem dX7_init_66 : decode cX7_init 66 = .ok (.invokespecial 45, 3) := by decide +kernel
theorem dX7_init_69 : decode cX7_init 69 = .ok (.putfield 46, 3) := by decide +kernel
theorem dX7_init_72 : decode cX7_init 72 = .ok (.aload_n 0, 1) := by decide +kernel
theorem dX7_init_73 : decode cX7_init 73 = .ok (.bipush 30, 2) := by decide +kernel
theorem dX7_init_75 : decode cX7_init 75 = .ok (.anewarray 43, 3) := by decide +kernel
theorem dX7_init_78 : decode cX7_init 78 = .ok (.putfield 50, 3) := by decide +kernel
theorem dX7_init_81 : decode cX7_init 81 = .ok (.aload_n 0, 1) := by decide +kernel
theorem dX7_init_82 : decode cX7_init 82 = .ok (.iconst 4, 1) := by decide +kernel
theorem dX7_init_83 : decode cX7_init 83 = .ok (.newarray .int, 2) := by decide +kernel
theorem dX7_init_85 : decode cX7_init 85 = .ok (.putfield 54, 3) := by decide +kernel
theorem dX7_init_88 : decode cX7_init 88 = .ok (.aload_n 0, 1) := by decide +kernel
theorem dX7_init_89 : decode cX7_init 89 = .ok (.new 57, 3) := by decide +kernel
theorem dX7_init_92 : decode cX7_init 92 = .ok (.dup, 1) := by decide +kernel
theorem dX7_init_93 : decode cX7_init 93 = .ok (.invokespecial 59, 3) := by decide +kernel
theorem dX7_init_96 : decode cX7_init 96 = .ok (.putfield 60, 3) := by decide +kernel
theorem dX7_init_99 : decode cX7_init 99 = .ok (.return_, 1) := by decide +kernel
theorem dX7_type_0 : decode cX7_type 0 = .ok (.aload_n 0, 1) := by decide +kernel
theorem dX7_type_1 : decode cX7_type 1 = .ok (.getfield 10, 3) := by decide +kernel
theorem dX7_type_4 : decode cX7_type 4 = .ok (.getfield 64, 3) := by decide +kernel
theorem dX7_type_7 : decode cX7_type 7 = .ok (.astore_n 3, 1) := by decide +kernel
theorem dX7_type_8 : decode cX7_type 8 = .ok (.lload_n 1, 1) := by decide +kernel
theorem dX7_type_9 : decode cX7_type 9 = .ok (.invokestatic 68, 3) := by decide +kernel
theorem dX7_type_12 : decode cX7_type 12 = .ok (.istore 4, 2) := by decide +kernel
theorem dX7_type_14 : decode cX7_type 14 = .ok (.iload 4, 2) := by decide +kernel
theorem dX7_type_16 : decode cX7_type 16 = .ok (.iconst (-1), 1) := by decide +kernel
theorem dX7_type_17 : decode cX7_type 17 = .ok (.if_icmp .ne 13, 3) := by decide +kernel
theorem dX7_type_20 : decode cX7_type 20 = .ok (.new 74, 3) := by decide +kernel
theorem dX7_type_23 : decode cX7_type 23 = .ok (.dup, 1) := by decide +kernel
theorem dX7_type_24 : decode cX7_type 24 = .ok (.ldc 76, 2) := by decide +kernel
theorem dX7_type_26 : decode cX7_type 26 = .ok (.invokespecial 78, 3) := by decide +kernel
theorem dX7_type_29 : decode cX7_type 29 = .ok (.athrow, 1) := by decide +kernel
theorem dX7_type_30 : decode cX7_type 30 = .ok (.aload_n 3, 1) := by decide +kernel
theorem dX7_type_31 : decode cX7_type 31 = .ok (.getfield 81, 3) := by decide +kernel
theorem dX7_type_34 : decode cX7_type 34 = .ok (.iload 4, 2) := by decide +kernel
theorem dX7_type_36 : decode cX7_type 36 = .ok (.iadd, 1) := by decide +kernel
theorem dX7_type_37 : decode cX7_type 37 = .ok (.sipush 160, 3) := by decide +kernel
theorem dX7_type_40 : decode cX7_type 40 = .ok (.if_icmp .le 13, 3) := by decide +kernel
theorem dX7_type_43 : decode cX7_type 43 = .ok (.new 85, 3) := by decide +kernel
theorem dX7_type_46 : decode cX7_type 46 = .ok (.dup, 1) := by decide +kernel
theorem dX7_type_47 : decode cX7_type 47 = .ok (.ldc 87, 2) := by decide +kernel
theorem dX7_type_49 : decode cX7_type 49 = .ok (.invokespecial 89, 3) := by decide +kernel
theorem dX7_type_52 : decode cX7_type 52 = .ok (.athrow, 1) := by decide +kernel
theorem dX7_type_53 : decode cX7_type 53 = .ok (.aload_n 3, 1) := by decide +kernel
theorem dX7_type_54 : decode cX7_type 54 = .ok (.lload_n 1, 1) := by decide +kernel
theorem dX7_type_55 : decode cX7_type 55 = .ok (.iload 4, 2) := by decide +kernel
theorem dX7_type_57 : decode cX7_type 57 = .ok (.invokevirtual 90, 3) := by decide +kernel
theorem dX7_type_60 : decode cX7_type 60 = .ok (.aload_n 3, 1) := by decide +kernel
theorem dX7_type_61 : decode cX7_type 61 = .ok (.getfield 81, 3) := by decide +kernel
theorem dX7_type_64 : decode cX7_type 64 = .ok (.ireturn, 1) := by decide +kernel
theorem dX7_template_0 : decode cX7_template 0 = .ok (.iload_n 1, 1) := by decide +kernel
theorem dX7_template_1 : decode cX7_template 1 = .ok (.ifCond .lt 11, 3) := by decide +kernel
theorem dX7_template_4 : decode cX7_template 4 = .ok (.iload_n 1, 1) := by decide +kernel
theorem dX7_template_5 : decode cX7_template 5 = .ok (.aload_n 0, 1) := by decide +kernel
theorem dX7_template_6 : decode cX7_template 6 = .ok (.getfield 94, 3) := by decide +kernel
theorem dX7_template_9 : decode cX7_template 9 = .ok (.if_icmp .le 13, 3) := by decide +kernel
theorem dX7_template_12 : decode cX7_template 12 = .ok (.new 97, 3) := by decide +kernel
theorem dX7_template_15 : decode cX7_template 15 = .ok (.dup, 1) := by decide +kernel
theorem dX7_template_16 : decode cX7_template 16 = .ok (.ldc 99, 2) := by decide +kernel
theorem dX7_template_18 : decode cX7_template 18 = .ok (.invokespecial 101, 3) := by decide +kernel
theorem dX7_template_21 : decode cX7_template 21 = .ok (.athrow, 1) := by decide +kernel
theorem dX7_template_22 : decode cX7_template 22 = .ok (.iload_n 1, 1) := by decide +kernel
theorem dX7_template_23 : decode cX7_template 23 = .ok (.aload_n 0, 1) := by decide +kernel
theorem dX7_template_24 : decode cX7_template 24 = .ok (.getfield 25, 3) := by decide +kernel
theorem dX7_template_27 : decode cX7_template 27 = .ok (.arraylength, 1) := by decide +kernel
theorem dX7_template_28 : decode cX7_template 28 = .ok (.if_icmp .lt 13, 3) := by decide +kernel
theorem dX7_template_31 : decode cX7_template 31 = .ok (.new 85, 3) := by decide +kernel
theorem dX7_template_34 : decode cX7_template 34 = .ok (.dup, 1) := by decide +kernel
theorem dX7_template_35 : decode cX7_template 35 = .ok (.ldc 102, 2) := by decide +kernel
theorem dX7_template_37 : decode cX7_template 37 = .ok (.invokespecial 89, 3) := by decide +kernel
theorem dX7_template_40 : decode cX7_template 40 = .ok (.athrow, 1) := by decide +kernel
theorem dX7_template_41 : decode cX7_template 41 = .ok (.aload_n 0, 1) := by decide +kernel
theorem dX7_template_42 : decode cX7_template 42 = .ok (.getfield 10, 3) := by decide +kernel
theorem dX7_template_45 : decode cX7_template 45 = .ok (.invokevirtual 104, 3) := by decide +kernel
theorem dX7_template_48 : decode cX7_template 48 = .ok (.istore_n 2, 1) := by decide +kernel
theorem dX7_template_49 : decode cX7_template 49 = .ok (.iload_n 2, 1) := by decide +kernel
theorem dX7_template_50 : decode cX7_template 50 = .ok (.ifCond .lt 56, 3) := by decide +kernel
theorem dX7_template_53 : decode cX7_template 53 = .ok (.aload_n 0, 1) := by decide +kernel
theorem dX7_template_54 : decode cX7_template 54 = .ok (.getfield 25, 3) := by decide +kernel
theorem dX7_template_57 : decode cX7_template 57 = .ok (.iload_n 1, 1) := by decide +kernel
theorem dX7_template_58 : decode cX7_template 58 = .ok (.aaload, 1) := by decide +kernel
theorem dX7_template_59 : decode cX7_template 59 = .ok (.astore_n 3, 1) := by decide +kernel
theorem dX7_template_60 : decode cX7_template 60 = .ok (.aload_n 0, 1) := by decide +kernel
theorem dX7_template_61 : decode cX7_template 61 = .ok (.getfield 25, 3) := by decide +kernel
theorem dX7_template_64 : decode cX7_template 64 = .ok (.iload_n 1, 1) := by decide +kernel
theorem dX7_template_65 : decode cX7_template 65 = .ok (.aload_n 0, 1) := by decide +kernel
theorem dX7_template_66 : decode cX7_template 66 = .ok (.getfield 10, 3) := by decide +kernel
theorem dX7_template_69 : decode cX7_template 69 = .ok (.aload_n 3, 1) := by decide +kernel
theorem dX7_template_70 : decode cX7_template 70 = .ok (.ifnonnull 13, 3) := by decide +kernel
theorem dX7_template_73 : decode cX7_template 73 = .ok (.new 23, 3) := by decide +kernel
theorem dX7_template_76 : decode cX7_template 76 = .ok (.dup, 1) := by decide +kernel
theorem dX7_template_77 : decode cX7_template 77 = .ok (.invokespecial 108, 3) := by decide +kernel
theorem dX7_template_80 : decode cX7_template 80 = .ok (.goto 4, 3) := by decide +kernel
theorem dX7_template_83 : decode cX7_template 83 = .ok (.aload_n 3, 1) := by decide +kernel
theorem dX7_template_84 : decode cX7_template 84 = .ok (.invokevirtual 109, 3) := by decide +kernel
theorem dX7_template_87 : decode cX7_template 87 = .ok (.aastore, 1) := by decide +kernel
theorem dX7_template_88 : decode cX7_template 88 = .ok (.iload_n 1, 1) := by decide +kernel
theorem dX7_template_89 : decode cX7_template 89 = .ok (.aload_n 0, 1) := by decide +kernel
theorem dX7_template_90 : decode cX7_template 90 = .ok (.getfield 94, 3) := by decide +kernel
theorem dX7_template_93 : decode cX7_template 93 = .ok (.if_icmp .ne 13, 3) := by decide +kernel
theorem dX7_template_96 : decode cX7_template 96 = .ok (.aload_n 0, 1) := by decide +kernel
theorem dX7_template_97 : decode cX7_template 97 = .ok (.dup, 1) := by decide +kernel
theorem dX7_template_98 : decode cX7_template 98 = .ok (.getfield 94, 3) := by decide +kernel
theorem dX7_template_101 : decode cX7_template 101 = .ok (.iconst 1, 1) := by decide +kernel
theorem dX7_template_102 : decode cX7_template 102 = .ok (.iadd, 1) := by decide +kernel
theorem dX7_template_103 : decode cX7_template 103 = .ok (.putfield 94, 3) := by decide +kernel
theorem dX7_template_106 : decode cX7_template 106 = .ok (.iload_n 2, 1) := by decide +kernel
theorem dX7_template_107 : decode cX7_template 107 = .ok (.ireturn, 1) := by decide +kernel
theorem dX7_pass_0 : decode cX7_pass 0 = .ok (.iload_n 1, 1) := by decide +kernel
theorem dX7_pass_1 : decode cX7_pass 1 = .ok (.iconst 1, 1) := by decide +kernel
theorem dX7_pass_2 : decode cX7_pass 2 = .ok (.if_icmp .lt 9, 3) := by decide +kernel
theorem dX7_pass_5 : decode cX7_pass 5 = .ok (.iload_n 1, 1) := by decide +kernel
theorem dX7_pass_6 : decode cX7_pass 6 = .ok (.bipush 99, 2) := by decide +kernel
theorem dX7_pass_8 : decode cX7_pass 8 = .ok (.if_icmp .le 13, 3) := by decide +kernel
theorem dX7_pass_11 : decode cX7_pass 11 = .ok (.new 74, 3) := by decide +kernel
theorem dX7_pass_14 : decode cX7_pass 14 = .ok (.dup, 1) := by decide +kernel
theorem dX7_pass_15 : decode cX7_pass 15 = .ok (.ldc 113, 2) := by decide +kernel
theorem dX7_pass_17 : decode cX7_pass 17 = .ok (.invokespecial 78, 3) := by decide +kernel
theorem dX7_pass_20 : decode cX7_pass 20 = .ok (.athrow, 1) := by decide +kernel
theorem dX7_pass_21 : decode cX7_pass 21 = .ok (.aload_n 0, 1) := by decide +kernel
theorem dX7_pass_22 : decode cX7_pass 22 = .ok (.dup, 1) := by decide +kernel
theorem dX7_pass_23 : decode cX7_pass 23 = .ok (.getfield 115, 3) := by decide +kernel
theorem dX7_pass_26 : decode cX7_pass 26 = .ok (.iload_n 1, 1) := by decide +kernel
theorem dX7_pass_27 : decode cX7_pass 27 = .ok (.iadd, 1) := by decide +kernel
theorem dX7_pass_28 : decode cX7_pass 28 = .ok (.putfield 115, 3) := by decide +kernel
theorem dX7_pass_31 : decode cX7_pass 31 = .ok (.aload_n 0, 1) := by decide +kernel
theorem dX7_pass_32 : decode cX7_pass 32 = .ok (.getfield 115, 3) := by decide +kernel
theorem dX7_pass_35 : decode cX7_pass 35 = .ok (.ireturn, 1) := by decide +kernel
theorem dX7_rate_0 : decode cX7_rate 0 = .ok (.iload_n 1, 1) := by decide +kernel
theorem dX7_rate_1 : decode cX7_rate 1 = .ok (.invokestatic 118, 3) := by decide +kernel
theorem dX7_rate_4 : decode cX7_rate 4 = .ok (.iload_n 2, 1) := by decide +kernel
theorem dX7_rate_5 : decode cX7_rate 5 = .ok (.invokestatic 122, 3) := by decide +kernel
theorem dX7_rate_8 : decode cX7_rate 8 = .ok (.iload_n 3, 1) := by decide +kernel
theorem dX7_rate_9 : decode cX7_rate 9 = .ok (.ifCond .lt 22, 3) := by decide +kernel
theorem dX7_rate_12 : decode cX7_rate 12 = .ok (.iload_n 3, 1) := by decide +kernel
theorem dX7_rate_13 : decode cX7_rate 13 = .ok (.bipush 100, 2) := by decide +kernel
theorem dX7_rate_15 : decode cX7_rate 15 = .ok (.if_icmp .gt 16, 3) := by decide +kernel
theorem dX7_rate_18 : decode cX7_rate 18 = .ok (.iload 4, 2) := by decide +kernel
theorem dX7_rate_20 : decode cX7_rate 20 = .ok (.ifCond .lt 11, 3) := by decide +kernel
theorem dX7_rate_23 : decode cX7_rate 23 = .ok (.iload 4, 2) := by decide +kernel
theorem dX7_rate_25 : decode cX7_rate 25 = .ok (.sipush 9999, 3) := by decide +kernel
theorem dX7_rate_28 : decode cX7_rate 28 = .ok (.if_icmp .le 13, 3) := by decide +kernel
theorem dX7_rate_31 : decode cX7_rate 31 = .ok (.new 74, 3) := by decide +kernel
theorem dX7_rate_34 : decode cX7_rate 34 = .ok (.dup, 1) := by decide +kernel
theorem dX7_rate_35 : decode cX7_rate 35 = .ok (.ldc 125, 2) := by decide +kernel
theorem dX7_rate_37 : decode cX7_rate 37 = .ok (.invokespecial 78, 3) := by decide +kernel
theorem dX7_rate_40 : decode cX7_rate 40 = .ok (.athrow, 1) := by decide +kernel
theorem dX7_rate_41 : decode cX7_rate 41 = .ok (.aload_n 0, 1) := by decide +kernel
theorem dX7_rate_42 : decode cX7_rate 42 = .ok (.getfield 32, 3) := by decide +kernel
theorem dX7_rate_45 : decode cX7_rate 45 = .ok (.getfield 127, 3) := by decide +kernel
theorem dX7_rate_48 : decode cX7_rate 48 = .ok (.bipush 60, 2) := by decide +kernel
theorem dX7_rate_50 : decode cX7_rate 50 = .ok (.if_icmp .lt 13, 3) := by decide +kernel
theorem dX7_rate_53 : decode cX7_rate 53 = .ok (.new 85, 3) := by decide +kernel
theorem dX7_rate_56 : decode cX7_rate 56 = .ok (.dup, 1) := by decide +kernel
theorem dX7_rate_57 : decode cX7_rate 57 = .ok (.ldc 130, 2) := by decide +kernel
theorem dX7_rate_59 : decode cX7_rate 59 = .ok (.invokespecial 89, 3) := by decide +kernel
theorem dX7_rate_62 : decode cX7_rate 62 = .ok (.athrow, 1) := by decide +kernel
theorem dX7_rate_63 : decode cX7_rate 63 = .ok (.aload_n 0, 1) := by decide +kernel
theorem dX7_rate_64 : decode cX7_rate 64 = .ok (.getfield 32, 3) := by decide +kernel
theorem dX7_rate_67 : decode cX7_rate 67 = .ok (.iload_n 1, 1) := by decide +kernel
theorem dX7_rate_68 : decode cX7_rate 68 = .ok (.iload_n 2, 1) := by decide +kernel
theorem dX7_rate_69 : decode cX7_rate 69 = .ok (.iload_n 3, 1) := by decide +kernel
theorem dX7_rate_70 : decode cX7_rate 70 = .ok (.iload 4, 2) := by decide +kernel
theorem dX7_rate_72 : decode cX7_rate 72 = .ok (.invokevirtual 132, 3) := by decide +kernel
theorem dX7_rate_75 : decode cX7_rate 75 = .ok (.ireturn, 1) := by decide +kernel
theorem dX7_telling_0 : decode cX7_telling 0 = .ok (.iload_n 1, 1) := by decide +kernel
theorem dX7_telling_1 : decode cX7_telling 1 = .ok (.invokestatic 118, 3) := by decide +kernel
theorem dX7_telling_4 : decode cX7_telling 4 = .ok (.iload_n 2, 1) := by decide +kernel
theorem dX7_telling_5 : decode cX7_telling 5 = .ok (.invokestatic 122, 3) := by decide +kernel
theorem dX7_telling_8 : decode cX7_telling 8 = .ok (.iload_n 3, 1) := by decide +kernel
theorem dX7_telling_9 : decode cX7_telling 9 = .ok (.ifCond .lt 10, 3) := by decide +kernel
theorem dX7_telling_12 : decode cX7_telling 12 = .ok (.iload_n 3, 1) := by decide +kernel
theorem dX7_telling_13 : decode cX7_telling 13 = .ok (.sipush 9999, 3) := by decide +kernel
theorem dX7_telling_16 : decode cX7_telling 16 = .ok (.if_icmp .le 13, 3) := by decide +kernel
theorem dX7_telling_19 : decode cX7_telling 19 = .ok (.new 74, 3) := by decide +kernel
theorem dX7_telling_22 : decode cX7_telling 22 = .ok (.dup, 1) := by decide +kernel
theorem dX7_telling_23 : decode cX7_telling 23 = .ok (.ldc 136, 2) := by decide +kernel
theorem dX7_telling_25 : decode cX7_telling 25 = .ok (.invokespecial 78, 3) := by decide +kernel
theorem dX7_telling_28 : decode cX7_telling 28 = .ok (.athrow, 1) := by decide +kernel
theorem dX7_telling_29 : decode cX7_telling 29 = .ok (.aload_n 0, 1) := by decide +kernel
theorem dX7_telling_30 : decode cX7_telling 30 = .ok (.getfield 32, 3) := by decide +kernel
theorem dX7_telling_33 : decode cX7_telling 33 = .ok (.iload_n 1, 1) := by decide +kernel
theorem dX7_telling_34 : decode cX7_telling 34 = .ok (.iload_n 2, 1) := by decide +kernel
theorem dX7_telling_35 : decode cX7_telling 35 = .ok (.iload_n 3, 1) := by decide +kernel
theorem dX7_telling_36 : decode cX7_telling 36 = .ok (.invokevirtual 138, 3) := by decide +kernel
theorem dX7_telling_39 : decode cX7_telling 39 = .ok (.ireturn, 1) := by decide +kernel
theorem dX7_round_0 : decode cX7_round 0 = .ok (.iload_n 1, 1) := by decide +kernel
theorem dX7_round_1 : decode cX7_round 1 = .ok (.invokestatic 118, 3) := by decide +kernel
theorem dX7_round_4 : decode cX7_round 4 = .ok (.iload_n 2, 1) := by decide +kernel
theorem dX7_round_5 : decode cX7_round 5 = .ok (.ifCond .lt 8, 3) := by decide +kernel
theorem dX7_round_8 : decode cX7_round 8 = .ok (.iload_n 2, 1) := by decide +kernel
theorem dX7_round_9 : decode cX7_round 9 = .ok (.iconst 2, 1) := by decide +kernel
theorem dX7_round_10 : decode cX7_round 10 = .ok (.if_icmp .le 13, 3) := by decide +kernel
theorem dX7_round_13 : decode cX7_round 13 = .ok (.new 74, 3) := by decide +kernel
theorem dX7_round_16 : decode cX7_round 16 = .ok (.dup, 1) := by decide +kernel
theorem dX7_round_17 : decode cX7_round 17 = .ok (.ldc 142, 2) := by decide +kernel
theorem dX7_round_19 : decode cX7_round 19 = .ok (.invokespecial 78, 3) := by decide +kernel
theorem dX7_round_22 : decode cX7_round 22 = .ok (.athrow, 1) := by decide +kernel
theorem dX7_round_23 : decode cX7_round 23 = .ok (.aload_n 0, 1) := by decide +kernel
theorem dX7_round_24 : decode cX7_round 24 = .ok (.getfield 36, 3) := by decide +kernel
theorem dX7_round_27 : decode cX7_round 27 = .ok (.iload_n 1, 1) := by decide +kernel
theorem dX7_round_28 : decode cX7_round 28 = .ok (.invokestatic 144, 3) := by decide +kernel
theorem dX7_round_31 : decode cX7_round 31 = .ok (.istore_n 3, 1) := by decide +kernel
theorem dX7_round_32 : decode cX7_round 32 = .ok (.aload_n 0, 1) := by decide +kernel
theorem dX7_round_33 : decode cX7_round 33 = .ok (.getfield 36, 3) := by decide +kernel
theorem dX7_round_36 : decode cX7_round 36 = .ok (.iload_n 1, 1) := by decide +kernel
theorem dX7_round_37 : decode cX7_round 37 = .ok (.iload_n 2, 1) := by decide +kernel
theorem dX7_round_38 : decode cX7_round 38 = .ok (.invokestatic 148, 3) := by decide +kernel
theorem dX7_round_41 : decode cX7_round 41 = .ok (.iload_n 3, 1) := by decide +kernel
theorem dX7_round_42 : decode cX7_round 42 = .ok (.ireturn, 1) := by decide +kernel
theorem dX7_client_0 : decode cX7_client 0 = .ok (.iload_n 1, 1) := by decide +kernel
theorem dX7_client_1 : decode cX7_client 1 = .ok (.invokestatic 152, 3) := by decide +kernel
theorem dX7_client_4 : decode cX7_client 4 = .ok (.iload_n 2, 1) := by decide +kernel
theorem dX7_client_5 : decode cX7_client 5 = .ok (.invokestatic 118, 3) := by decide +kernel
theorem dX7_client_8 : decode cX7_client 8 = .ok (.aload_n 0, 1) := by decide +kernel
theorem dX7_client_9 : decode cX7_client 9 = .ok (.getfield 40, 3) := by decide +kernel
theorem dX7_client_12 : decode cX7_client 12 = .ok (.iload_n 1, 1) := by decide +kernel
theorem dX7_client_13 : decode cX7_client 13 = .ok (.invokestatic 144, 3) := by decide +kernel
theorem dX7_client_16 : decode cX7_client 16 = .ok (.istore_n 3, 1) := by decide +kernel
theorem dX7_client_17 : decode cX7_client 17 = .ok (.aload_n 0, 1) := by decide +kernel
theorem dX7_client_18 : decode cX7_client 18 = .ok (.getfield 40, 3) := by decide +kernel
theorem dX7_client_21 : decode cX7_client 21 = .ok (.iload_n 1, 1) := by decide +kernel
theorem dX7_client_22 : decode cX7_client 22 = .ok (.iload_n 2, 1) := by decide +kernel
theorem dX7_client_23 : decode cX7_client 23 = .ok (.invokestatic 148, 3) := by decide +kernel
theorem dX7_client_26 : decode cX7_client 26 = .ok (.iload_n 3, 1) := by decide +kernel
theorem dX7_client_27 : decode cX7_client 27 = .ok (.ireturn, 1) := by decide +kernel
theorem dX7_line_0 : decode cX7_line 0 = .ok (.iload_n 1, 1) := by decide +kernel
theorem dX7_line_1 : decode cX7_line 1 = .ok (.invokestatic 122, 3) := by decide +kernel
theorem dX7_line_4 : decode cX7_line 4 = .ok (.iload_n 2, 1) := by decide +kernel
theorem dX7_line_5 : decode cX7_line 5 = .ok (.iconst 1, 1) := by decide +kernel
theorem dX7_line_6 : decode cX7_line 6 = .ok (.if_icmp .lt 21, 3) := by decide +kernel
theorem dX7_line_9 : decode cX7_line 9 = .ok (.iload_n 2, 1) := by decide +kernel
theorem dX7_line_10 : decode cX7_line 10 = .ok (.bipush 99, 2) := by decide +kernel
theorem dX7_line_12 : decode cX7_line 12 = .ok (.if_icmp .gt 15, 3) := by decide +kernel
theorem dX7_line_15 : decode cX7_line 15 = .ok (.iload_n 3, 1) := by decide +kernel
theorem dX7_line_16 : decode cX7_line 16 = .ok (.iconst 1, 1) := by decide +kernel
theorem dX7_line_17 : decode cX7_line 17 = .ok (.if_icmp .lt 10, 3) := by decide +kernel
theorem dX7_line_20 : decode cX7_line 20 = .ok (.iload_n 3, 1) := by decide +kernel
theorem dX7_line_21 : decode cX7_line 21 = .ok (.sipush 9999, 3) := by decide +kernel
theorem dX7_line_24 : decode cX7_line 24 = .ok (.if_icmp .le 13, 3) := by decide +kernel
theorem dX7_line_27 : decode cX7_line 27 = .ok (.new 74, 3) := by decide +kernel
theorem dX7_line_30 : decode cX7_line 30 = .ok (.dup, 1) := by decide +kernel
theorem dX7_line_31 : decode cX7_line 31 = .ok (.ldc 155, 2) := by decide +kernel
theorem dX7_line_33 : decode cX7_line 33 = .ok (.invokespecial 78, 3) := by decide +kernel
theorem dX7_line_36 : decode cX7_line 36 = .ok (.athrow, 1) := by decide +kernel
theorem dX7_line_37 : decode cX7_line 37 = .ok (.aload_n 0, 1) := by decide +kernel
theorem dX7_line_38 : decode cX7_line 38 = .ok (.getfield 46, 3) := by decide +kernel
theorem dX7_line_41 : decode cX7_line 41 = .ok (.getfield 157, 3) := by decide +kernel
theorem dX7_line_44 : decode cX7_line 44 = .ok (.bipush 6, 2) := by decide +kernel
theorem dX7_line_46 : decode cX7_line 46 = .ok (.if_icmp .lt 13, 3) := by decide +kernel
theorem dX7_line_49 : decode cX7_line 49 = .ok (.new 85, 3) := by decide +kernel
theorem dX7_line_52 : decode cX7_line 52 = .ok (.dup, 1) := by decide +kernel
theorem dX7_line_53 : decode cX7_line 53 = .ok (.ldc 160, 2) := by decide +kernel
theorem dX7_line_55 : decode cX7_line 55 = .ok (.invokespecial 89, 3) := by decide +kernel
theorem dX7_line_58 : decode cX7_line 58 = .ok (.athrow, 1) := by decide +kernel
theorem dX7_line_59 : decode cX7_line 59 = .ok (.aload_n 0, 1) := by decide +kernel
theorem dX7_line_60 : decode cX7_line 60 = .ok (.getfield 46, 3) := by decide +kernel
theorem dX7_line_63 : decode cX7_line 63 = .ok (.iload_n 1, 1) := by decide +kernel
theorem dX7_line_64 : decode cX7_line 64 = .ok (.iload_n 2, 1) := by decide +kernel
theorem dX7_line_65 : decode cX7_line 65 = .ok (.iload_n 3, 1) := by decide +kernel
theorem dX7_line_66 : decode cX7_line 66 = .ok (.invokevirtual 162, 3) := by decide +kernel
theorem dX7_line_69 : decode cX7_line 69 = .ok (.aload_n 0, 1) := by decide +kernel
theorem dX7_line_70 : decode cX7_line 70 = .ok (.getfield 46, 3) := by decide +kernel
theorem dX7_line_73 : decode cX7_line 73 = .ok (.getfield 157, 3) := by decide +kernel
theorem dX7_line_76 : decode cX7_line 76 = .ok (.ireturn, 1) := by decide +kernel
theorem dX7_make_0 : decode cX7_make 0 = .ok (.iload_n 1, 1) := by decide +kernel
theorem dX7_make_1 : decode cX7_make 1 = .ok (.invokestatic 152, 3) := by decide +kernel
theorem dX7_make_4 : decode cX7_make 4 = .ok (.aload_n 0, 1) := by decide +kernel
theorem dX7_make_5 : decode cX7_make 5 = .ok (.getfield 175, 3) := by decide +kernel
theorem dX7_make_8 : decode cX7_make 8 = .ok (.istore_n 2, 1) := by decide +kernel
theorem dX7_make_9 : decode cX7_make 9 = .ok (.aload_n 0, 1) := by decide +kernel
theorem dX7_make_10 : decode cX7_make 10 = .ok (.getfield 46, 3) := by decide +kernel
theorem dX7_make_13 : decode cX7_make 13 = .ok (.getfield 157, 3) := by decide +kernel
theorem dX7_make_16 : decode cX7_make 16 = .ok (.ifCond .eq 16, 3) := by decide +kernel
theorem dX7_make_19 : decode cX7_make 19 = .ok (.iload_n 2, 1) := by decide +kernel
theorem dX7_make_20 : decode cX7_make 20 = .ok (.ifCond .lt 12, 3) := by decide +kernel
theorem dX7_make_23 : decode cX7_make 23 = .ok (.iload_n 2, 1) := by decide +kernel
theorem dX7_make_24 : decode cX7_make 24 = .ok (.aload_n 0, 1) := by decide +kernel
theorem dX7_make_25 : decode cX7_make 25 = .ok (.getfield 50, 3) := by decide +kernel
theorem dX7_make_28 : decode cX7_make 28 = .ok (.arraylength, 1) := by decide +kernel
theorem dX7_make_29 : decode cX7_make 29 = .ok (.if_icmp .lt 13, 3) := by decide +kernel
theorem dX7_make_32 : decode cX7_make 32 = .ok (.new 85, 3) := by decide +kernel
theorem dX7_make_35 : decode cX7_make 35 = .ok (.dup, 1) := by decide +kernel
theorem dX7_make_36 : decode cX7_make 36 = .ok (.ldc 178, 2) := by decide +kernel
theorem dX7_make_38 : decode cX7_make 38 = .ok (.invokespecial 89, 3) := by decide +kernel
theorem dX7_make_41 : decode cX7_make 41 = .ok (.athrow, 1) := by decide +kernel
theorem dX7_make_42 : decode cX7_make 42 = .ok (.aload_n 0, 1) := by decide +kernel
theorem dX7_make_43 : decode cX7_make 43 = .ok (.getfield 40, 3) := by decide +kernel
theorem dX7_make_46 : decode cX7_make 46 = .ok (.iload_n 1, 1) := by decide +kernel
theorem dX7_make_47 : decode cX7_make 47 = .ok (.invokestatic 144, 3) := by decide +kernel
theorem dX7_make_50 : decode cX7_make 50 = .ok (.istore_n 3, 1) := by decide +kernel
theorem dX7_make_51 : decode cX7_make 51 = .ok (.aload_n 0, 1) := by decide +kernel
theorem dX7_make_52 : decode cX7_make 52 = .ok (.getfield 46, 3) := by decide +kernel
theorem dX7_make_55 : decode cX7_make 55 = .ok (.iload_n 2, 1) := by decide +kernel
theorem dX7_make_56 : decode cX7_make 56 = .ok (.putfield 180, 3) := by decide +kernel
theorem dX7_make_59 : decode cX7_make 59 = .ok (.aload_n 0, 1) := by decide +kernel
theorem dX7_make_60 : decode cX7_make 60 = .ok (.getfield 46, 3) := by decide +kernel
theorem dX7_make_63 : decode cX7_make 63 = .ok (.iload_n 1, 1) := by decide +kernel
theorem dX7_make_64 : decode cX7_make 64 = .ok (.putfield 183, 3) := by decide +kernel
theorem dX7_make_67 : decode cX7_make 67 = .ok (.aload_n 0, 1) := by decide +kernel
theorem dX7_make_68 : decode cX7_make 68 = .ok (.getfield 46, 3) := by decide +kernel
theorem dX7_make_71 : decode cX7_make 71 = .ok (.aload_n 0, 1) := by decide +kernel
theorem dX7_make_72 : decode cX7_make 72 = .ok (.getfield 115, 3) := by decide +kernel
theorem dX7_make_75 : decode cX7_make 75 = .ok (.putfield 186, 3) := by decide +kernel
theorem dX7_make_78 : decode cX7_make 78 = .ok (.aload_n 0, 1) := by decide +kernel
theorem dX7_make_79 : decode cX7_make 79 = .ok (.getfield 46, 3) := by decide +kernel
theorem dX7_make_82 : decode cX7_make 82 = .ok (.iload_n 3, 1) := by decide +kernel
theorem dX7_make_83 : decode cX7_make 83 = .ok (.putfield 189, 3) := by decide +kernel
theorem dX7_make_86 : decode cX7_make 86 = .ok (.aload_n 0, 1) := by decide +kernel
theorem dX7_make_87 : decode cX7_make 87 = .ok (.getfield 46, 3) := by decide +kernel
theorem dX7_make_90 : decode cX7_make 90 = .ok (.aload_n 0, 1) := by decide +kernel
theorem dX7_make_91 : decode cX7_make 91 = .ok (.getfield 36, 3) := by decide +kernel
theorem dX7_make_94 : decode cX7_make 94 = .ok (.iload_n 3, 1) := by decide +kernel
theorem dX7_make_95 : decode cX7_make 95 = .ok (.invokestatic 144, 3) := by decide +kernel
theorem dX7_make_98 : decode cX7_make 98 = .ok (.putfield 192, 3) := by decide +kernel
theorem dX7_make_101 : decode cX7_make 101 = .ok (.aload_n 0, 1) := by decide +kernel
theorem dX7_make_102 : decode cX7_make 102 = .ok (.getfield 32, 3) := by decide +kernel
theorem dX7_make_105 : decode cX7_make 105 = .ok (.iload_n 3, 1) := by decide +kernel
theorem dX7_make_106 : decode cX7_make 106 = .ok (.aload_n 0, 1) := by decide +kernel
theorem dX7_make_107 : decode cX7_make 107 = .ok (.getfield 115, 3) := by decide +kernel
theorem dX7_make_110 : decode cX7_make 110 = .ok (.aload_n 0, 1) := by decide +kernel
theorem dX7_make_111 : decode cX7_make 111 = .ok (.getfield 46, 3) := by decide +kernel
theorem dX7_make_114 : decode cX7_make 114 = .ok (.getfield 195, 3) := by decide +kernel
theorem dX7_make_117 : decode cX7_make 117 = .ok (.invokevirtual 198, 3) := by decide +kernel
theorem dX7_make_120 : decode cX7_make 120 = .ok (.aload_n 0, 1) := by decide +kernel
theorem dX7_make_121 : decode cX7_make 121 = .ok (.getfield 32, 3) := by decide +kernel
theorem dX7_make_124 : decode cX7_make 124 = .ok (.iload_n 3, 1) := by decide +kernel
theorem dX7_make_125 : decode cX7_make 125 = .ok (.aload_n 0, 1) := by decide +kernel
theorem dX7_make_126 : decode cX7_make 126 = .ok (.getfield 115, 3) := by decide +kernel
theorem dX7_make_129 : decode cX7_make 129 = .ok (.aload_n 0, 1) := by decide +kernel
theorem dX7_make_130 : decode cX7_make 130 = .ok (.getfield 46, 3) := by decide +kernel
theorem dX7_make_133 : decode cX7_make 133 = .ok (.getfield 202, 3) := by decide +kernel
theorem dX7_make_136 : decode cX7_make 136 = .ok (.invokevirtual 205, 3) := by decide +kernel
theorem dX7_make_139 : decode cX7_make 139 = .ok (.aload_n 0, 1) := by decide +kernel
theorem dX7_make_140 : decode cX7_make 140 = .ok (.getfield 46, 3) := by decide +kernel
theorem dX7_make_143 : decode cX7_make 143 = .ok (.aload_n 0, 1) := by decide +kernel
theorem dX7_make_144 : decode cX7_make 144 = .ok (.getfield 46, 3) := by decide +kernel
theorem dX7_make_147 : decode cX7_make 147 = .ok (.aload_n 0, 1) := by decide +kernel
theorem dX7_make_148 : decode cX7_make 148 = .ok (.getfield 46, 3) := by decide +kernel
theorem dX7_make_151 : decode cX7_make 151 = .ok (.getfield 202, 3) := by decide +kernel
theorem dX7_make_154 : decode cX7_make 154 = .ok (.invokevirtual 208, 3) := by decide +kernel
theorem dX7_make_157 : decode cX7_make 157 = .ok (.putfield 212, 3) := by decide +kernel
theorem dX7_make_160 : decode cX7_make 160 = .ok (.aload_n 0, 1) := by decide +kernel
theorem dX7_make_161 : decode cX7_make 161 = .ok (.getfield 50, 3) := by decide +kernel
theorem dX7_make_164 : decode cX7_make 164 = .ok (.iload_n 2, 1) := by decide +kernel
theorem dX7_make_165 : decode cX7_make 165 = .ok (.aload_n 0, 1) := by decide +kernel
theorem dX7_make_166 : decode cX7_make 166 = .ok (.getfield 46, 3) := by decide +kernel
theorem dX7_make_169 : decode cX7_make 169 = .ok (.aastore, 1) := by decide +kernel
theorem dX7_make_170 : decode cX7_make 170 = .ok (.aload_n 0, 1) := by decide +kernel
theorem dX7_make_171 : decode cX7_make 171 = .ok (.iload_n 2, 1) := by decide +kernel
theorem dX7_make_172 : decode cX7_make 172 = .ok (.iconst 1, 1) := by decide +kernel
theorem dX7_make_173 : decode cX7_make 173 = .ok (.iadd, 1) := by decide +kernel
theorem dX7_make_174 : decode cX7_make 174 = .ok (.putfield 175, 3) := by decide +kernel
theorem dX7_make_177 : decode cX7_make 177 = .ok (.aload_n 0, 1) := by decide +kernel
theorem dX7_make_178 : decode cX7_make 178 = .ok (.new 43, 3) := by decide +kernel
theorem dX7_make_181 : decode cX7_make 181 = .ok (.dup, 1) := by decide +kernel
theorem dX7_make_182 : decode cX7_make 182 = .ok (.invokespecial 45, 3) := by decide +kernel
theorem dX7_make_185 : decode cX7_make 185 = .ok (.putfield 46, 3) := by decide +kernel
theorem dX7_make_188 : decode cX7_make 188 = .ok (.iload_n 2, 1) := by decide +kernel
theorem dX7_make_189 : decode cX7_make 189 = .ok (.ireturn, 1) := by decide +kernel
theorem dX7_invoice_0 : decode cX7_invoice 0 = .ok (.aload_n 0, 1) := by decide +kernel
theorem dX7_invoice_1 : decode cX7_invoice 1 = .ok (.iload_n 1, 1) := by decide +kernel
theorem dX7_invoice_2 : decode cX7_invoice 2 = .ok (.invokevirtual 215, 3) := by decide +kernel
theorem dX7_invoice_5 : decode cX7_invoice 5 = .ok (.astore_n 3, 1) := by decide +kernel
theorem dX7_invoice_6 : decode cX7_invoice 6 = .ok (.iload_n 2, 1) := by decide +kernel
theorem dX7_invoice_7 : decode cX7_invoice 7 = .ok (.tableswitch 85 0 7 #[45, 50, 55, 60, 65, 70, 75, 80], 45) := by decide +kernel
theorem dX7_invoice_52 : decode cX7_invoice 52 = .ok (.aload_n 3, 1) := by decide +kernel
theorem dX7_invoice_53 : decode cX7_invoice 53 = .ok (.getfield 183, 3) := by decide +kernel
theorem dX7_invoice_56 : decode cX7_invoice 56 = .ok (.ireturn, 1) := by decide +kernel
theorem dX7_invoice_57 : decode cX7_invoice 57 = .ok (.aload_n 3, 1) := by decide +kernel
theorem dX7_invoice_58 : decode cX7_invoice 58 = .ok (.getfield 186, 3) := by decide +kernel
theorem dX7_invoice_61 : decode cX7_invoice 61 = .ok (.ireturn, 1) := by decide +kernel
theorem dX7_invoice_62 : decode cX7_invoice 62 = .ok (.aload_n 3, 1) := by decide +kernel
theorem dX7_invoice_63 : decode cX7_invoice 63 = .ok (.getfield 157, 3) := by decide +kernel
theorem dX7_invoice_66 : decode cX7_invoice 66 = .ok (.ireturn, 1) := by decide +kernel
theorem dX7_invoice_67 : decode cX7_invoice 67 = .ok (.aload_n 3, 1) := by decide +kernel
theorem dX7_invoice_68 : decode cX7_invoice 68 = .ok (.invokevirtual 219, 3) := by decide +kernel
theorem dX7_invoice_71 : decode cX7_invoice 71 = .ok (.ireturn, 1) := by decide +kernel
theorem dX7_invoice_72 : decode cX7_invoice 72 = .ok (.aload_n 3, 1) := by decide +kernel
theorem dX7_invoice_73 : decode cX7_invoice 73 = .ok (.getfield 212, 3) := by decide +kernel
theorem dX7_invoice_76 : decode cX7_invoice 76 = .ok (.ireturn, 1) := by decide +kernel
theorem dX7_invoice_77 : decode cX7_invoice 77 = .ok (.aload_n 3, 1) := by decide +kernel
theorem dX7_invoice_78 : decode cX7_invoice 78 = .ok (.invokevirtual 222, 3) := by decide +kernel
theorem dX7_invoice_81 : decode cX7_invoice 81 = .ok (.ireturn, 1) := by decide +kernel
theorem dX7_invoice_82 : decode cX7_invoice 82 = .ok (.aload_n 3, 1) := by decide +kernel
theorem dX7_invoice_83 : decode cX7_invoice 83 = .ok (.getfield 189, 3) := by decide +kernel
theorem dX7_invoice_86 : decode cX7_invoice 86 = .ok (.ireturn, 1) := by decide +kernel
theorem dX7_invoice_87 : decode cX7_invoice 87 = .ok (.aload_n 3, 1) := by decide +kernel
theorem dX7_invoice_88 : decode cX7_invoice 88 = .ok (.getfield 192, 3) := by decide +kernel
theorem dX7_invoice_91 : decode cX7_invoice 91 = .ok (.ireturn, 1) := by decide +kernel
theorem dX7_invoice_92 : decode cX7_invoice 92 = .ok (.new 74, 3) := by decide +kernel
theorem dX7_invoice_95 : decode cX7_invoice 95 = .ok (.dup, 1) := by decide +kernel
theorem dX7_invoice_96 : decode cX7_invoice 96 = .ok (.ldc 225, 2) := by decide +kernel
theorem dX7_invoice_98 : decode cX7_invoice 98 = .ok (.invokespecial 78, 3) := by decide +kernel
theorem dX7_invoice_101 : decode cX7_invoice 101 = .ok (.athrow, 1) := by decide +kernel
theorem dX7_taxAnew_0 : decode cX7_taxAnew 0 = .ok (.aload_n 0, 1) := by decide +kernel
theorem dX7_taxAnew_1 : decode cX7_taxAnew 1 = .ok (.aload_n 0, 1) := by decide +kernel
theorem dX7_taxAnew_2 : decode cX7_taxAnew 2 = .ok (.iload_n 1, 1) := by decide +kernel
theorem dX7_taxAnew_3 : decode cX7_taxAnew 3 = .ok (.invokevirtual 215, 3) := by decide +kernel
theorem dX7_taxAnew_6 : decode cX7_taxAnew 6 = .ok (.invokevirtual 227, 3) := by decide +kernel
theorem dX7_taxAnew_9 : decode cX7_taxAnew 9 = .ok (.ireturn, 1) := by decide +kernel
theorem dX7_used_0 : decode cX7_used 0 = .ok (.aload_n 0, 1) := by decide +kernel
theorem dX7_used_1 : decode cX7_used 1 = .ok (.iload_n 1, 1) := by decide +kernel
theorem dX7_used_2 : decode cX7_used 2 = .ok (.invokevirtual 215, 3) := by decide +kernel
theorem dX7_used_5 : decode cX7_used 5 = .ok (.astore_n 3, 1) := by decide +kernel
theorem dX7_used_6 : decode cX7_used 6 = .ok (.aload_n 3, 1) := by decide +kernel
theorem dX7_used_7 : decode cX7_used 7 = .ok (.iload_n 2, 1) := by decide +kernel
theorem dX7_used_8 : decode cX7_used 8 = .ok (.invokevirtual 166, 3) := by decide +kernel
theorem dX7_used_11 : decode cX7_used 11 = .ok (.ifCond .ne 13, 3) := by decide +kernel
theorem dX7_used_14 : decode cX7_used 14 = .ok (.new 97, 3) := by decide +kernel
theorem dX7_used_17 : decode cX7_used 17 = .ok (.dup, 1) := by decide +kernel
theorem dX7_used_18 : decode cX7_used 18 = .ok (.ldc 170, 2) := by decide +kernel
theorem dX7_used_20 : decode cX7_used 20 = .ok (.invokespecial 101, 3) := by decide +kernel
theorem dX7_used_23 : decode cX7_used 23 = .ok (.athrow, 1) := by decide +kernel
theorem dX7_used_24 : decode cX7_used 24 = .ok (.aload_n 3, 1) := by decide +kernel
theorem dX7_used_25 : decode cX7_used 25 = .ok (.getfield 195, 3) := by decide +kernel
theorem dX7_used_28 : decode cX7_used 28 = .ok (.aload_n 3, 1) := by decide +kernel
theorem dX7_used_29 : decode cX7_used 29 = .ok (.getfield 231, 3) := by decide +kernel
theorem dX7_used_32 : decode cX7_used 32 = .ok (.iload_n 2, 1) := by decide +kernel
theorem dX7_used_33 : decode cX7_used 33 = .ok (.invokestatic 144, 3) := by decide +kernel
theorem dX7_used_36 : decode cX7_used 36 = .ok (.invokestatic 144, 3) := by decide +kernel
theorem dX7_used_39 : decode cX7_used 39 = .ok (.ireturn, 1) := by decide +kernel
theorem dX7_written_0 : decode cX7_written 0 = .ok (.aload_n 0, 1) := by decide +kernel
theorem dX7_written_1 : decode cX7_written 1 = .ok (.iload_n 1, 1) := by decide +kernel
theorem dX7_written_2 : decode cX7_written 2 = .ok (.invokevirtual 215, 3) := by decide +kernel
theorem dX7_written_5 : decode cX7_written 5 = .ok (.astore 4, 2) := by decide +kernel
theorem dX7_written_7 : decode cX7_written 7 = .ok (.aload_n 0, 1) := by decide +kernel
theorem dX7_written_8 : decode cX7_written 8 = .ok (.iload_n 2, 1) := by decide +kernel
theorem dX7_written_9 : decode cX7_written 9 = .ok (.invokevirtual 234, 3) := by decide +kernel
theorem dX7_written_12 : decode cX7_written 12 = .ok (.astore 5, 2) := by decide +kernel
theorem dX7_written_14 : decode cX7_written 14 = .ok (.iload_n 3, 1) := by decide +kernel
theorem dX7_written_15 : decode cX7_written 15 = .ok (.ifCond .ge 13, 3) := by decide +kernel
theorem dX7_written_18 : decode cX7_written 18 = .ok (.new 97, 3) := by decide +kernel
theorem dX7_written_21 : decode cX7_written 21 = .ok (.dup, 1) := by decide +kernel
theorem dX7_written_22 : decode cX7_written 22 = .ok (.ldc 238, 2) := by decide +kernel
theorem dX7_written_24 : decode cX7_written 24 = .ok (.invokespecial 101, 3) := by decide +kernel
theorem dX7_written_27 : decode cX7_written 27 = .ok (.athrow, 1) := by decide +kernel
theorem dX7_written_28 : decode cX7_written 28 = .ok (.aload_n 0, 1) := by decide +kernel
theorem dX7_written_29 : decode cX7_written 29 = .ok (.getfield 19, 3) := by decide +kernel
theorem dX7_written_32 : decode cX7_written 32 = .ok (.aload 4, 2) := by decide +kernel
theorem dX7_written_34 : decode cX7_written 34 = .ok (.aload 5, 2) := by decide +kernel
theorem dX7_written_36 : decode cX7_written 36 = .ok (.iload_n 3, 1) := by decide +kernel
theorem dX7_written_37 : decode cX7_written 37 = .ok (.invokevirtual 240, 3) := by decide +kernel
theorem dX7_written_40 : decode cX7_written 40 = .ok (.aload_n 0, 1) := by decide +kernel
theorem dX7_written_41 : decode cX7_written 41 = .ok (.getfield 19, 3) := by decide +kernel
theorem dX7_written_44 : decode cX7_written 44 = .ok (.getfield 244, 3) := by decide +kernel
theorem dX7_written_47 : decode cX7_written 47 = .ok (.ireturn, 1) := by decide +kernel
theorem dX7_length_0 : decode cX7_length 0 = .ok (.aload_n 0, 1) := by decide +kernel
theorem dX7_length_1 : decode cX7_length 1 = .ok (.iload_n 1, 1) := by decide +kernel
theorem dX7_length_2 : decode cX7_length 2 = .ok (.invokevirtual 215, 3) := by decide +kernel
theorem dX7_length_5 : decode cX7_length 5 = .ok (.astore_n 3, 1) := by decide +kernel
theorem dX7_length_6 : decode cX7_length 6 = .ok (.aload_n 0, 1) := by decide +kernel
theorem dX7_length_7 : decode cX7_length 7 = .ok (.iload_n 2, 1) := by decide +kernel
theorem dX7_length_8 : decode cX7_length 8 = .ok (.invokevirtual 234, 3) := by decide +kernel
theorem dX7_length_11 : decode cX7_length 11 = .ok (.astore 4, 2) := by decide +kernel
theorem dX7_length_13 : decode cX7_length 13 = .ok (.aload_n 0, 1) := by decide +kernel
theorem dX7_length_14 : decode cX7_length 14 = .ok (.getfield 19, 3) := by decide +kernel
theorem dX7_length_17 : decode cX7_length 17 = .ok (.aload_n 3, 1) := by decide +kernel
theorem dX7_length_18 : decode cX7_length 18 = .ok (.aload 4, 2) := by decide +kernel
theorem dX7_length_20 : decode cX7_length 20 = .ok (.iconst (-1), 1) := by decide +kernel
theorem dX7_length_21 : decode cX7_length 21 = .ok (.invokevirtual 240, 3) := by decide +kernel
theorem dX7_length_24 : decode cX7_length 24 = .ok (.aload_n 0, 1) := by decide +kernel
theorem dX7_length_25 : decode cX7_length 25 = .ok (.getfield 19, 3) := by decide +kernel
theorem dX7_length_28 : decode cX7_length 28 = .ok (.getfield 248, 3) := by decide +kernel
theorem dX7_length_31 : decode cX7_length 31 = .ok (.ireturn, 1) := by decide +kernel
theorem dX7_settle_0 : decode cX7_settle 0 = .ok (.iload_n 1, 1) := by decide +kernel
theorem dX7_settle_1 : decode cX7_settle 1 = .ok (.invokestatic 118, 3) := by decide +kernel
theorem dX7_settle_4 : decode cX7_settle 4 = .ok (.aload_n 0, 1) := by decide +kernel
theorem dX7_settle_5 : decode cX7_settle 5 = .ok (.getfield 60, 3) := by decide +kernel
theorem dX7_settle_8 : decode cX7_settle 8 = .ok (.getfield 249, 3) := by decide +kernel
theorem dX7_settle_11 : decode cX7_settle 11 = .ok (.istore_n 2, 1) := by decide +kernel
theorem dX7_settle_12 : decode cX7_settle 12 = .ok (.iconst 0, 1) := by decide +kernel
theorem dX7_settle_13 : decode cX7_settle 13 = .ok (.istore_n 3, 1) := by decide +kernel
theorem dX7_settle_14 : decode cX7_settle 14 = .ok (.iload_n 3, 1) := by decide +kernel
theorem dX7_settle_15 : decode cX7_settle 15 = .ok (.aload_n 0, 1) := by decide +kernel
theorem dX7_settle_16 : decode cX7_settle 16 = .ok (.getfield 50, 3) := by decide +kernel
theorem dX7_settle_19 : decode cX7_settle 19 = .ok (.arraylength, 1) := by decide +kernel
theorem dX7_settle_20 : decode cX7_settle 20 = .ok (.if_icmp .ge 49, 3) := by decide +kernel
theorem dX7_settle_23 : decode cX7_settle 23 = .ok (.aload_n 0, 1) := by decide +kernel
theorem dX7_settle_24 : decode cX7_settle 24 = .ok (.getfield 60, 3) := by decide +kernel
theorem dX7_settle_27 : decode cX7_settle 27 = .ok (.getfield 249, 3) := by decide +kernel
theorem dX7_settle_30 : decode cX7_settle 30 = .ok (.bipush 40, 2) := by decide +kernel
theorem dX7_settle_32 : decode cX7_settle 32 = .ok (.if_icmp .ge 37, 3) := by decide +kernel
theorem dX7_settle_35 : decode cX7_settle 35 = .ok (.aload_n 0, 1) := by decide +kernel
theorem dX7_settle_36 : decode cX7_settle 36 = .ok (.getfield 50, 3) := by decide +kernel
theorem dX7_settle_39 : decode cX7_settle 39 = .ok (.iload_n 3, 1) := by decide +kernel
theorem dX7_settle_40 : decode cX7_settle 40 = .ok (.aaload, 1) := by decide +kernel
theorem dX7_settle_41 : decode cX7_settle 41 = .ok (.astore 4, 2) := by decide +kernel
theorem dX7_settle_43 : decode cX7_settle 43 = .ok (.aload 4, 2) := by decide +kernel
theorem dX7_settle_45 : decode cX7_settle 45 = .ok (.ifnull 18, 3) := by decide +kernel
theorem dX7_settle_48 : decode cX7_settle 48 = .ok (.aload 4, 2) := by decide +kernel
theorem dX7_settle_50 : decode cX7_settle 50 = .ok (.getfield 189, 3) := by decide +kernel
theorem dX7_settle_53 : decode cX7_settle 53 = .ok (.iload_n 1, 1) := by decide +kernel
theorem dX7_settle_54 : decode cX7_settle 54 = .ok (.if_icmp .ne 9, 3) := by decide +kernel
theorem dX7_settle_57 : decode cX7_settle 57 = .ok (.aload_n 0, 1) := by decide +kernel
theorem dX7_settle_58 : decode cX7_settle 58 = .ok (.aload 4, 2) := by decide +kernel
theorem dX7_settle_60 : decode cX7_settle 60 = .ok (.invokevirtual 250, 3) := by decide +kernel
theorem dX7_settle_63 : decode cX7_settle 63 = .ok (.iinc 3 1, 3) := by decide +kernel
theorem dX7_settle_66 : decode cX7_settle 66 = .ok (.goto (-52), 3) := by decide +kernel
theorem dX7_settle_69 : decode cX7_settle 69 = .ok (.aload_n 0, 1) := by decide +kernel
theorem dX7_settle_70 : decode cX7_settle 70 = .ok (.getfield 60, 3) := by decide +kernel
theorem dX7_settle_73 : decode cX7_settle 73 = .ok (.getfield 249, 3) := by decide +kernel
theorem dX7_settle_76 : decode cX7_settle 76 = .ok (.iload_n 2, 1) := by decide +kernel
theorem dX7_settle_77 : decode cX7_settle 77 = .ok (.isub, 1) := by decide +kernel
theorem dX7_settle_78 : decode cX7_settle 78 = .ok (.ireturn, 1) := by decide +kernel
theorem dX7_notes_0 : decode cX7_notes 0 = .ok (.aload_n 0, 1) := by decide +kernel
theorem dX7_notes_1 : decode cX7_notes 1 = .ok (.getfield 60, 3) := by decide +kernel
theorem dX7_notes_4 : decode cX7_notes 4 = .ok (.getfield 249, 3) := by decide +kernel
theorem dX7_notes_7 : decode cX7_notes 7 = .ok (.ireturn, 1) := by decide +kernel
theorem dX7_owed_0 : decode cX7_owed 0 = .ok (.iload_n 1, 1) := by decide +kernel
theorem dX7_owed_1 : decode cX7_owed 1 = .ok (.invokestatic 118, 3) := by decide +kernel
theorem dX7_owed_4 : decode cX7_owed 4 = .ok (.iconst 0, 1) := by decide +kernel
theorem dX7_owed_5 : decode cX7_owed 5 = .ok (.istore_n 2, 1) := by decide +kernel
theorem dX7_owed_6 : decode cX7_owed 6 = .ok (.iconst 0, 1) := by decide +kernel
theorem dX7_owed_7 : decode cX7_owed 7 = .ok (.istore_n 3, 1) := by decide +kernel
theorem dX7_owed_8 : decode cX7_owed 8 = .ok (.iload_n 3, 1) := by decide +kernel
theorem dX7_owed_9 : decode cX7_owed 9 = .ok (.aload_n 0, 1) := by decide +kernel
theorem dX7_owed_10 : decode cX7_owed 10 = .ok (.getfield 50, 3) := by decide +kernel
theorem dX7_owed_13 : decode cX7_owed 13 = .ok (.arraylength, 1) := by decide +kernel
theorem dX7_owed_14 : decode cX7_owed 14 = .ok (.if_icmp .ge 39, 3) := by decide +kernel
theorem dX7_owed_17 : decode cX7_owed 17 = .ok (.aload_n 0, 1) := by decide +kernel
theorem dX7_owed_18 : decode cX7_owed 18 = .ok (.getfield 50, 3) := by decide +kernel
theorem dX7_owed_21 : decode cX7_owed 21 = .ok (.iload_n 3, 1) := by decide +kernel
theorem dX7_owed_22 : decode cX7_owed 22 = .ok (.aaload, 1) := by decide +kernel
theorem dX7_owed_23 : decode cX7_owed 23 = .ok (.astore 4, 2) := by decide +kernel
theorem dX7_owed_25 : decode cX7_owed 25 = .ok (.aload 4, 2) := by decide +kernel
theorem dX7_owed_27 : decode cX7_owed 27 = .ok (.ifnull 20, 3) := by decide +kernel
theorem dX7_owed_30 : decode cX7_owed 30 = .ok (.aload 4, 2) := by decide +kernel
theorem dX7_owed_32 : decode cX7_owed 32 = .ok (.getfield 189, 3) := by decide +kernel
theorem dX7_owed_35 : decode cX7_owed 35 = .ok (.iload_n 1, 1) := by decide +kernel
theorem dX7_owed_36 : decode cX7_owed 36 = .ok (.if_icmp .ne 11, 3) := by decide +kernel
theorem dX7_owed_39 : decode cX7_owed 39 = .ok (.iload_n 2, 1) := by decide +kernel
theorem dX7_owed_40 : decode cX7_owed 40 = .ok (.aload 4, 2) := by decide +kernel
theorem dX7_owed_42 : decode cX7_owed 42 = .ok (.invokevirtual 222, 3) := by decide +kernel
theorem dX7_owed_45 : decode cX7_owed 45 = .ok (.iadd, 1) := by decide +kernel
theorem dX7_owed_46 : decode cX7_owed 46 = .ok (.istore_n 2, 1) := by decide +kernel
theorem dX7_owed_47 : decode cX7_owed 47 = .ok (.iinc 3 1, 3) := by decide +kernel
theorem dX7_owed_50 : decode cX7_owed 50 = .ok (.goto (-42), 3) := by decide +kernel
theorem dX7_owed_53 : decode cX7_owed 53 = .ok (.iload_n 2, 1) := by decide +kernel
theorem dX7_owed_54 : decode cX7_owed 54 = .ok (.ireturn, 1) := by decide +kernel
theorem dX7_checkPlace_0 : decode cX7_checkPlace 0 = .ok (.iload_n 0, 1) := by decide +kernel
theorem dX7_checkPlace_1 : decode cX7_checkPlace 1 = .ok (.ifCond .lt 8, 3) := by decide +kernel
theorem dX7_checkPlace_4 : decode cX7_checkPlace 4 = .ok (.iload_n 0, 1) := by decide +kernel
theorem dX7_checkPlace_5 : decode cX7_checkPlace 5 = .ok (.iconst 4, 1) := by decide +kernel
theorem dX7_checkPlace_6 : decode cX7_checkPlace 6 = .ok (.if_icmp .lt 14, 3) := by decide +kernel
theorem dX7_checkPlace_9 : decode cX7_checkPlace 9 = .ok (.new 97, 3) := by decide +kernel
theorem dX7_checkPlace_12 : decode cX7_checkPlace 12 = .ok (.dup, 1) := by decide +kernel
theorem dX7_checkPlace_13 : decode cX7_checkPlace 13 = .ok (.ldc_w 265, 3) := by decide +kernel
theorem dX7_checkPlace_16 : decode cX7_checkPlace 16 = .ok (.invokespecial 101, 3) := by decide +kernel
theorem dX7_checkPlace_19 : decode cX7_checkPlace 19 = .ok (.athrow, 1) := by decide +kernel
theorem dX7_checkPlace_20 : decode cX7_checkPlace 20 = .ok (.return_, 1) := by decide +kernel
theorem dX7_checkKind_0 : decode cX7_checkKind 0 = .ok (.iload_n 0, 1) := by decide +kernel
theorem dX7_checkKind_1 : decode cX7_checkKind 1 = .ok (.ifCond .lt 8, 3) := by decide +kernel
theorem dX7_checkKind_4 : decode cX7_checkKind 4 = .ok (.iload_n 0, 1) := by decide +kernel
theorem dX7_checkKind_5 : decode cX7_checkKind 5 = .ok (.iconst 4, 1) := by decide +kernel
theorem dX7_checkKind_6 : decode cX7_checkKind 6 = .ok (.if_icmp .lt 14, 3) := by decide +kernel
theorem dX7_checkKind_9 : decode cX7_checkKind 9 = .ok (.new 97, 3) := by decide +kernel
theorem dX7_checkKind_12 : decode cX7_checkKind 12 = .ok (.dup, 1) := by decide +kernel
theorem dX7_checkKind_13 : decode cX7_checkKind 13 = .ok (.ldc_w 267, 3) := by decide +kernel
theorem dX7_checkKind_16 : decode cX7_checkKind 16 = .ok (.invokespecial 101, 3) := by decide +kernel
theorem dX7_checkKind_19 : decode cX7_checkKind 19 = .ok (.athrow, 1) := by decide +kernel
theorem dX7_checkKind_20 : decode cX7_checkKind 20 = .ok (.return_, 1) := by decide +kernel
theorem dX7_checkClient_0 : decode cX7_checkClient 0 = .ok (.iload_n 0, 1) := by decide +kernel
theorem dX7_checkClient_1 : decode cX7_checkClient 1 = .ok (.ifCond .lt 9, 3) := by decide +kernel
theorem dX7_checkClient_4 : decode cX7_checkClient 4 = .ok (.iload_n 0, 1) := by decide +kernel
theorem dX7_checkClient_5 : decode cX7_checkClient 5 = .ok (.bipush 10, 2) := by decide +kernel
theorem dX7_checkClient_7 : decode cX7_checkClient 7 = .ok (.if_icmp .lt 14, 3) := by decide +kernel
theorem dX7_checkClient_10 : decode cX7_checkClient 10 = .ok (.new 97, 3) := by decide +kernel
theorem dX7_checkClient_13 : decode cX7_checkClient 13 = .ok (.dup, 1) := by decide +kernel
theorem dX7_checkClient_14 : decode cX7_checkClient 14 = .ok (.ldc_w 269, 3) := by decide +kernel
theorem dX7_checkClient_17 : decode cX7_checkClient 17 = .ok (.invokespecial 101, 3) := by decide +kernel
theorem dX7_checkClient_20 : decode cX7_checkClient 20 = .ok (.athrow, 1) := by decide +kernel
theorem dX7_checkClient_21 : decode cX7_checkClient 21 = .ok (.return_, 1) := by decide +kernel
theorem dX7_findBill_0 : decode cX7_findBill 0 = .ok (.iload_n 1, 1) := by decide +kernel
theorem dX7_findBill_1 : decode cX7_findBill 1 = .ok (.ifCond .lt 12, 3) := by decide +kernel
theorem dX7_findBill_4 : decode cX7_findBill 4 = .ok (.iload_n 1, 1) := by decide +kernel
theorem dX7_findBill_5 : decode cX7_findBill 5 = .ok (.aload_n 0, 1) := by decide +kernel
theorem dX7_findBill_6 : decode cX7_findBill 6 = .ok (.getfield 50, 3) := by decide +kernel
theorem dX7_findBill_9 : decode cX7_findBill 9 = .ok (.arraylength, 1) := by decide +kernel
theorem dX7_findBill_10 : decode cX7_findBill 10 = .ok (.if_icmp .lt 7, 3) := by decide +kernel
theorem dX7_findBill_13 : decode cX7_findBill 13 = .ok (.aconst_null, 1) := by decide +kernel
theorem dX7_findBill_14 : decode cX7_findBill 14 = .ok (.goto 9, 3) := by decide +kernel
theorem dX7_findBill_17 : decode cX7_findBill 17 = .ok (.aload_n 0, 1) := by decide +kernel
theorem dX7_findBill_18 : decode cX7_findBill 18 = .ok (.getfield 50, 3) := by decide +kernel
theorem dX7_findBill_21 : decode cX7_findBill 21 = .ok (.iload_n 1, 1) := by decide +kernel
theorem dX7_findBill_22 : decode cX7_findBill 22 = .ok (.aaload, 1) := by decide +kernel
theorem dX7_findBill_23 : decode cX7_findBill 23 = .ok (.astore_n 2, 1) := by decide +kernel
theorem dX7_findBill_24 : decode cX7_findBill 24 = .ok (.aload_n 2, 1) := by decide +kernel
theorem dX7_findBill_25 : decode cX7_findBill 25 = .ok (.ifnonnull 14, 3) := by decide +kernel
theorem dX7_findBill_28 : decode cX7_findBill 28 = .ok (.new 97, 3) := by decide +kernel
theorem dX7_findBill_31 : decode cX7_findBill 31 = .ok (.dup, 1) := by decide +kernel
theorem dX7_findBill_32 : decode cX7_findBill 32 = .ok (.ldc_w 271, 3) := by decide +kernel
theorem dX7_findBill_35 : decode cX7_findBill 35 = .ok (.invokespecial 101, 3) := by decide +kernel
theorem dX7_findBill_38 : decode cX7_findBill 38 = .ok (.athrow, 1) := by decide +kernel
theorem dX7_findBill_39 : decode cX7_findBill 39 = .ok (.aload_n 2, 1) := by decide +kernel
theorem dX7_findBill_40 : decode cX7_findBill 40 = .ok (.areturn, 1) := by decide +kernel
theorem dX7_findForm_0 : decode cX7_findForm 0 = .ok (.iload_n 1, 1) := by decide +kernel
theorem dX7_findForm_1 : decode cX7_findForm 1 = .ok (.ifCond .lt 12, 3) := by decide +kernel
theorem dX7_findForm_4 : decode cX7_findForm 4 = .ok (.iload_n 1, 1) := by decide +kernel
theorem dX7_findForm_5 : decode cX7_findForm 5 = .ok (.aload_n 0, 1) := by decide +kernel
theorem dX7_findForm_6 : decode cX7_findForm 6 = .ok (.getfield 25, 3) := by decide +kernel
theorem dX7_findForm_9 : decode cX7_findForm 9 = .ok (.arraylength, 1) := by decide +kernel
theorem dX7_findForm_10 : decode cX7_findForm 10 = .ok (.if_icmp .lt 7, 3) := by decide +kernel
theorem dX7_findForm_13 : decode cX7_findForm 13 = .ok (.aconst_null, 1) := by decide +kernel
theorem dX7_findForm_14 : decode cX7_findForm 14 = .ok (.goto 9, 3) := by decide +kernel
theorem dX7_findForm_17 : decode cX7_findForm 17 = .ok (.aload_n 0, 1) := by decide +kernel
theorem dX7_findForm_18 : decode cX7_findForm 18 = .ok (.getfield 25, 3) := by decide +kernel
theorem dX7_findForm_21 : decode cX7_findForm 21 = .ok (.iload_n 1, 1) := by decide +kernel
theorem dX7_findForm_22 : decode cX7_findForm 22 = .ok (.aaload, 1) := by decide +kernel
theorem dX7_findForm_23 : decode cX7_findForm 23 = .ok (.astore_n 2, 1) := by decide +kernel
theorem dX7_findForm_24 : decode cX7_findForm 24 = .ok (.aload_n 2, 1) := by decide +kernel
theorem dX7_findForm_25 : decode cX7_findForm 25 = .ok (.ifnonnull 13, 3) := by decide +kernel
theorem dX7_findForm_28 : decode cX7_findForm 28 = .ok (.new 97, 3) := by decide +kernel
theorem dX7_findForm_31 : decode cX7_findForm 31 = .ok (.dup, 1) := by decide +kernel
theorem dX7_findForm_32 : decode cX7_findForm 32 = .ok (.ldc 99, 2) := by decide +kernel
theorem dX7_findForm_34 : decode cX7_findForm 34 = .ok (.invokespecial 101, 3) := by decide +kernel
theorem dX7_findForm_37 : decode cX7_findForm 37 = .ok (.athrow, 1) := by decide +kernel
theorem dX7_findForm_38 : decode cX7_findForm 38 = .ok (.aload_n 2, 1) := by decide +kernel
theorem dX7_findForm_39 : decode cX7_findForm 39 = .ok (.areturn, 1) := by decide +kernel
theorem dX7_taxKnownNow_0 : decode cX7_taxKnownNow 0 = .ok (.aload_n 0, 1) := by decide +kernel
theorem dX7_taxKnownNow_1 : decode cX7_taxKnownNow 1 = .ok (.getfield 32, 3) := by decide +kernel
theorem dX7_taxKnownNow_4 : decode cX7_taxKnownNow 4 = .ok (.aload_n 1, 1) := by decide +kernel
theorem dX7_taxKnownNow_5 : decode cX7_taxKnownNow 5 = .ok (.getfield 189, 3) := by decide +kernel
theorem dX7_taxKnownNow_8 : decode cX7_taxKnownNow 8 = .ok (.aload_n 1, 1) := by decide +kernel
theorem dX7_taxKnownNow_9 : decode cX7_taxKnownNow 9 = .ok (.getfield 186, 3) := by decide +kernel
theorem dX7_taxKnownNow_12 : decode cX7_taxKnownNow 12 = .ok (.aload_n 0, 1) := by decide +kernel
theorem dX7_taxKnownNow_13 : decode cX7_taxKnownNow 13 = .ok (.getfield 54, 3) := by decide +kernel
theorem dX7_taxKnownNow_16 : decode cX7_taxKnownNow 16 = .ok (.invokevirtual 205, 3) := by decide +kernel
theorem dX7_taxKnownNow_19 : decode cX7_taxKnownNow 19 = .ok (.aload_n 1, 1) := by decide +kernel
theorem dX7_taxKnownNow_20 : decode cX7_taxKnownNow 20 = .ok (.aload_n 0, 1) := by decide +kernel
theorem dX7_taxKnownNow_21 : decode cX7_taxKnownNow 21 = .ok (.getfield 54, 3) := by decide +kernel
theorem dX7_taxKnownNow_24 : decode cX7_taxKnownNow 24 = .ok (.invokevirtual 208, 3) := by decide +kernel
theorem dX7_taxKnownNow_27 : decode cX7_taxKnownNow 27 = .ok (.ireturn, 1) := by decide +kernel
theorem dX7_makeGood_0 : decode cX7_makeGood 0 = .ok (.aload_n 0, 1) := by decide +kernel
theorem dX7_makeGood_1 : decode cX7_makeGood 1 = .ok (.aload_n 1, 1) := by decide +kernel
theorem dX7_makeGood_2 : decode cX7_makeGood 2 = .ok (.invokevirtual 227, 3) := by decide +kernel
theorem dX7_makeGood_5 : decode cX7_makeGood 5 = .ok (.aload_n 1, 1) := by decide +kernel
theorem dX7_makeGood_6 : decode cX7_makeGood 6 = .ok (.invokevirtual 222, 3) := by decide +kernel
theorem dX7_makeGood_9 : decode cX7_makeGood 9 = .ok (.isub, 1) := by decide +kernel
theorem dX7_makeGood_10 : decode cX7_makeGood 10 = .ok (.istore_n 2, 1) := by decide +kernel
theorem dX7_makeGood_11 : decode cX7_makeGood 11 = .ok (.iload_n 2, 1) := by decide +kernel
theorem dX7_makeGood_12 : decode cX7_makeGood 12 = .ok (.ifCond .eq 29, 3) := by decide +kernel
theorem dX7_makeGood_15 : decode cX7_makeGood 15 = .ok (.aload_n 0, 1) := by decide +kernel
theorem dX7_makeGood_16 : decode cX7_makeGood 16 = .ok (.getfield 60, 3) := by decide +kernel
theorem dX7_makeGood_19 : decode cX7_makeGood 19 = .ok (.aload_n 1, 1) := by decide +kernel
theorem dX7_makeGood_20 : decode cX7_makeGood 20 = .ok (.getfield 180, 3) := by decide +kernel
theorem dX7_makeGood_23 : decode cX7_makeGood 23 = .ok (.iload_n 2, 1) := by decide +kernel
theorem dX7_makeGood_24 : decode cX7_makeGood 24 = .ok (.aload_n 0, 1) := by decide +kernel
theorem dX7_makeGood_25 : decode cX7_makeGood 25 = .ok (.getfield 115, 3) := by decide +kernel
theorem dX7_makeGood_28 : decode cX7_makeGood 28 = .ok (.invokevirtual 273, 3) := by decide +kernel
theorem dX7_makeGood_31 : decode cX7_makeGood 31 = .ok (.aload_n 1, 1) := by decide +kernel
theorem dX7_makeGood_32 : decode cX7_makeGood 32 = .ok (.dup, 1) := by decide +kernel
theorem dX7_makeGood_33 : decode cX7_makeGood 33 = .ok (.getfield 276, 3) := by decide +kernel
theorem dX7_makeGood_36 : decode cX7_makeGood 36 = .ok (.iload_n 2, 1) := by decide +kernel
theorem dX7_makeGood_37 : decode cX7_makeGood 37 = .ok (.iadd, 1) := by decide +kernel
theorem dX7_makeGood_38 : decode cX7_makeGood 38 = .ok (.putfield 276, 3) := by decide +kernel
theorem dX7_makeGood_41 : decode cX7_makeGood 41 = .ok (.return_, 1) := by decide +kernel
theorem dX7_get_0 : decode cX7_get 0 = .ok (.iload_n 1, 1) := by decide +kernel
theorem dX7_get_1 : decode cX7_get 1 = .ok (.ifCond .lt 15, 3) := by decide +kernel
theorem dX7_get_4 : decode cX7_get 4 = .ok (.iload_n 1, 1) := by decide +kernel
theorem dX7_get_5 : decode cX7_get 5 = .ok (.aload_n 0, 1) := by decide +kernel
theorem dX7_get_6 : decode cX7_get 6 = .ok (.arraylength, 1) := by decide +kernel
theorem dX7_get_7 : decode cX7_get 7 = .ok (.if_icmp .ge 9, 3) := by decide +kernel
theorem dX7_get_10 : decode cX7_get 10 = .ok (.aload_n 0, 1) := by decide +kernel
theorem dX7_get_11 : decode cX7_get 11 = .ok (.iload_n 1, 1) := by decide +kernel
theorem dX7_get_12 : decode cX7_get 12 = .ok (.iaload, 1) := by decide +kernel
theorem dX7_get_13 : decode cX7_get 13 = .ok (.goto 4, 3) := by decide +kernel
theorem dX7_get_16 : decode cX7_get 16 = .ok (.iconst 0, 1) := by decide +kernel
theorem dX7_get_17 : decode cX7_get 17 = .ok (.ireturn, 1) := by decide +kernel
theorem dX7_set_0 : decode cX7_set 0 = .ok (.iload_n 1, 1) := by decide +kernel
theorem dX7_set_1 : decode cX7_set 1 = .ok (.ifCond .lt 13, 3) := by decide +kernel
theorem dX7_set_4 : decode cX7_set 4 = .ok (.iload_n 1, 1) := by decide +kernel
theorem dX7_set_5 : decode cX7_set 5 = .ok (.aload_n 0, 1) := by decide +kernel
theorem dX7_set_6 : decode cX7_set 6 = .ok (.arraylength, 1) := by decide +kernel
theorem dX7_set_7 : decode cX7_set 7 = .ok (.if_icmp .ge 7, 3) := by decide +kernel
theorem dX7_set_10 : decode cX7_set 10 = .ok (.aload_n 0, 1) := by decide +kernel
theorem dX7_set_11 : decode cX7_set 11 = .ok (.iload_n 1, 1) := by decide +kernel
theorem dX7_set_12 : decode cX7_set 12 = .ok (.iload_n 2, 1) := by decide +kernel
theorem dX7_set_13 : decode cX7_set 13 = .ok (.iastore, 1) := by decide +kernel
theorem dX7_set_14 : decode cX7_set 14 = .ok (.return_, 1) := by decide +kernel
