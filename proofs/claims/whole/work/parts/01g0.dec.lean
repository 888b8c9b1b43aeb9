theorem dX8_init_0 : decode cX8_init 0 = .ok (.aload_n 0, 1) := by decide +kernel
theorem dX8_init_1 : decode cX8_init 1 = .ok (.invokespecial 1, 3) := by decide +kernel
theorem dX8_init_4 : decode cX8_init 4 = .ok (.aload_n 0, 1) := by decide +kernel
theorem dX8_init_5 : decode cX8_init 5 = .ok (.sipush 160, 3) := by decide +kernel
theorem dX8_init_8 : decode cX8_init 8 = .ok (.newarray .int, 2) := by decide +kernel
theorem dX8_init_10 : decode cX8_init 10 = .ok (.putfield 7, 3) := by decide +kernel
theorem dX8_init_13 : decode cX8_init 13 = .ok (.aload_n 0, 1) := by decide +kernel
theorem dX8_init_14 : decode cX8_init 14 = .ok (.bipush 6, 2) := by decide +kernel
theorem dX8_init_16 : decode cX8_init 16 = .ok (.newarray .int, 2) := by decide +kernel
theorem dX8_init_18 : decode cX8_init 18 = .ok (.putfield 13, 3) := by decide +kernel
theorem dX8_init_21 : decode cX8_init 21 = .ok (.aload_n 0, 1) := by decide +kernel
theorem dX8_init_22 : decode cX8_init 22 = .ok (.sipush 960, 3) := by decide +kernel
theorem dX8_init_25 : decode cX8_init 25 = .ok (.newarray .int, 2) := by decide +kernel
theorem dX8_init_27 : decode cX8_init 27 = .ok (.putfield 16, 3) := by decide +kernel
theorem dX8_init_30 : decode cX8_init 30 = .ok (.aload_n 0, 1) := by decide +kernel
theorem dX8_init_31 : decode cX8_init 31 = .ok (.sipush 1120, 3) := by decide +kernel
theorem dX8_init_34 : decode cX8_init 34 = .ok (.newarray .int, 2) := by decide +kernel
theorem dX8_init_36 : decode cX8_init 36 = .ok (.putfield 19, 3) := by decide +kernel
theorem dX8_init_39 : decode cX8_init 39 = .ok (.aload_n 0, 1) := by decide +kernel
theorem dX8_init_40 : decode cX8_init 40 = .ok (.sipush 1120, 3) := by decide +kernel
theorem dX8_init_43 : decode cX8_init 43 = .ok (.newarray .int, 2) := by decide +kernel
theorem dX8_init_45 : decode cX8_init 45 = .ok (.putfield 22, 3) := by decide +kernel
theorem dX8_init_48 : decode cX8_init 48 = .ok (.aload_n 0, 1) := by decide +kernel
theorem dX8_init_49 : decode cX8_init 49 = .ok (.sipush 1120, 3) := by decide +kernel
theorem dX8_init_52 : decode cX8_init 52 = .ok (.newarray .int, 2) := by decide +kernel
theorem dX8_init_54 : decode cX8_init 54 = .ok (.putfield 25, 3) := by decide +kernel
theorem dX8_init_57 : decode cX8_init 57 = .ok (.aload_n 0, 1) := by decide +kernel
theorem dX8_init_58 : decode cX8_init 58 = .ok (.iconst 5, 1) := by decide +kernel
theorem dX8_init_59 : decode cX8_init 59 = .ok (.newarray .boolean, 2) := by decide +kernel
theorem dX8_init_61 : decode cX8_init 61 = .ok (.putfield 28, 3) := by decide +kernel
theorem dX8_init_64 : decode cX8_init 64 = .ok (.aload_n 0, 1) := by decide +kernel
theorem dX8_init_65 : decode cX8_init 65 = .ok (.iconst 5, 1) := by decide +kernel
theorem dX8_init_66 : decode cX8_init 66 = .ok (.newarray .int, 2) := by decide +kernel
theorem dX8_init_68 : decode cX8_init 68 = .ok (.putfield 32, 3) := by decide +kernel
theorem dX8_init_71 : decode cX8_init 71 = .ok (.aload_n 0, 1) := by decide +kernel
theorem dX8_init_72 : decode cX8_init 72 = .ok (.iconst 5, 1) := by decide +kernel
theorem dX8_init_73 : decode cX8_init 73 = .ok (.newarray .int, 2) := by decide +kernel
theorem dX8_init_75 : decode cX8_init 75 = .ok (.putfield 35, 3) := by decide +kernel
theorem dX8_init_78 : decode cX8_init 78 = .ok (.aload_n 0, 1) := by decide +kernel
theorem dX8_init_79 : decode cX8_init 79 = .ok (.bipush 60, 2) := by decide +kernel
theorem dX8_init_81 : decode cX8_init 81 = .ok (.newarray .int, 2) := by decide +kernel
theorem dX8_init_83 : decode cX8_init 83 = .ok (.putfield 38, 3) := by decide +kernel
theorem dX8_init_86 : decode cX8_init 86 = .ok (.aload_n 0, 1) := by decide +kernel
theorem dX8_init_87 : decode cX8_init 87 = .ok (.bipush 60, 2) := by decide +kernel
theorem dX8_init_89 : decode cX8_init 89 = .ok (.newarray .int, 2) := by decide +kernel
theorem dX8_init_91 : decode cX8_init 91 = .ok (.putfield 41, 3) := by decide +kernel
theorem dX8_init_94 : decode cX8_init 94 = .ok (.aload_n 0, 1) := by decide +kernel
theorem dX8_init_95 : decode cX8_init 95 = .ok (.bipush 60, 2) := by decide +kernel
theorem dX8_init_97 : decode cX8_init 97 = .ok (.newarray .int, 2) := by decide +kernel
theorem dX8_init_99 : decode cX8_init 99 = .ok (.putfield 44, 3) := by decide +kernel
theorem dX8_init_102 : decode cX8_init 102 = .ok (.aload_n 0, 1) := by decide +kernel
theorem dX8_init_103 : decode cX8_init 103 = .ok (.bipush 60, 2) := by decide +kernel
theorem dX8_init_105 : decode cX8_init 105 = .ok (.newarray .int, 2) := by decide +kernel
theorem dX8_init_107 : decode cX8_init 107 = .ok (.putfield 47, 3) := by decide +kernel
theorem dX8_init_110 : decode cX8_init 110 = .ok (.aload_n 0, 1) := by decide +kernel
theorem dX8_init_111 : decode cX8_init 111 = .ok (.iconst 4, 1) := by decide +kernel
theorem dX8_init_112 : decode cX8_init 112 = .ok (.newarray .int, 2) := by decide +kernel
theorem dX8_init_114 : decode cX8_init 114 = .ok (.putfield 50, 3) := by decide +kernel
theorem dX8_init_117 : decode cX8_init 117 = .ok (.aload_n 0, 1) := by decide +kernel
theorem dX8_init_118 : decode cX8_init 118 = .ok (.bipush 10, 2) := by decide +kernel
theorem dX8_init_120 : decode cX8_init 120 = .ok (.newarray .int, 2) := by decide +kernel
theorem dX8_init_122 : decode cX8_init 122 = .ok (.putfield 53, 3) := by decide +kernel
theorem dX8_init_125 : decode cX8_init 125 = .ok (.aload_n 0, 1) := by decide +kernel
theorem dX8_init_126 : decode cX8_init 126 = .ok (.bipush 6, 2) := by decide +kernel
theorem dX8_init_128 : decode cX8_init 128 = .ok (.newarray .int, 2) := by decide +kernel
theorem dX8_init_130 : decode cX8_init 130 = .ok (.putfield 56, 3) := by decide +kernel
theorem dX8_init_133 : decode cX8_init 133 = .ok (.aload_n 0, 1) := by decide +kernel
theorem dX8_init_134 : decode cX8_init 134 = .ok (.bipush 6, 2) := by decide +kernel
theorem dX8_init_136 : decode cX8_init 136 = .ok (.newarray .int, 2) := by decide +kernel
theorem dX8_init_138 : decode cX8_init 138 = .ok (.putfield 59, 3) := by decide +kernel
theorem dX8_init_141 : decode cX8_init 141 = .ok (.aload_n 0, 1) := by decide +kernel
theorem dX8_init_142 : decode cX8_init 142 = .ok (.bipush 6, 2) := by decide +kernel
theorem dX8_init_144 : decode cX8_init 144 = .ok (.newarray .int, 2) := by decide +kernel
theorem dX8_init_146 : decode cX8_init 146 = .ok (.putfield 62, 3) := by decide +kernel
theorem dX8_init_149 : decode cX8_init 149 = .ok (.aload_n 0, 1) := by decide +kernel
theorem dX8_init_150 : decode cX8_init 150 = .ok (.bipush 30, 2) := by decide +kernel
theorem dX8_init_152 : decode cX8_init 152 = .ok (.newarray .int, 2) := by decide +kernel
theorem dX8_init_154 : decode cX8_init 154 = .ok (.putfield 65, 3) := by decide +kernel
theorem dX8_init_157 : decode cX8_init 157 = .ok (.aload_n 0, 1) := by decide +kernel
theorem dX8_init_158 : decode cX8_init 158 = .ok (.bipush 30, 2) := by decide +kernel
theorem dX8_init_160 : decode cX8_init 160 = .ok (.newarray .int, 2) := by decide +kernel
theorem dX8_init_162 : decode cX8_init 162 = .ok (.putfield 68, 3) := by decide +kernel
theorem dX8_init_165 : decode cX8_init 165 = .ok (.aload_n 0, 1) := by decide +kernel
theorem dX8_init_166 : decode cX8_init 166 = .ok (.bipush 30, 2) := by decide +kernel
theorem dX8_init_168 : decode cX8_init 168 = .ok (.newarray .int, 2) := by decide +kernel
theorem dX8_init_170 : decode cX8_init 170 = .ok (.putfield 71, 3) := by decide +kernel
theorem dX8_init_173 : decode cX8_init 173 = .ok (.aload_n 0, 1) := by decide +kernel
theorem dX8_init_174 : decode cX8_init 174 = .ok (.bipush 30, 2) := by decide +kernel
theorem dX8_init_176 : decode cX8_init 176 = .ok (.newarray .int, 2) := by decide +kernel
theorem dX8_init_178 : decode cX8_init 178 = .ok (.putfield 74, 3) := by decide +kernel
theorem dX8_init_181 : decode cX8_init 181 = .ok (.aload_n 0, 1) := by decide +kernel
theorem dX8_init_182 : decode cX8_init 182 = .ok (.bipush 30, 2) := by decide +kernel
theorem dX8_init_184 : decode cX8_init 184 = .ok (.newarray .int, 2) := by decide +kernel
theorem dX8_init_186 : decode cX8_init 186 = .ok (.putfield 77, 3) := by decide +kernel
theorem dX8_init_189 : decode cX8_init 189 = .ok (.aload_n 0, 1) := by decide +kernel
theorem dX8_init_190 : decode cX8_init 190 = .ok (.sipush 180, 3) := by decide +kernel
theorem dX8_init_193 : decode cX8_init 193 = .ok (.newarray .int, 2) := by decide +kernel
theorem dX8_init_195 : decode cX8_init 195 = .ok (.putfield 80, 3) := by decide +kernel
theorem dX8_init_198 : decode cX8_init 198 = .ok (.aload_n 0, 1) := by decide +kernel
theorem dX8_init_199 : decode cX8_init 199 = .ok (.sipush 180, 3) := by decide +kernel
theorem dX8_init_202 : decode cX8_init 202 = .ok (.newarray .int, 2) := by decide +kernel
theorem dX8_init_204 : decode cX8_init 204 = .ok (.putfield 83, 3) := by decide +kernel
theorem dX8_init_207 : decode cX8_init 207 = .ok (.aload_n 0, 1) := by decide +kernel
theorem dX8_init_208 : decode cX8_init 208 = .ok (.sipush 180, 3) := by decide +kernel
theorem dX8_init_211 : decode cX8_init 211 = .ok (.newarray .int, 2) := by decide +kernel
theorem dX8_init_213 : decode cX8_init 213 = .ok (.putfield 86, 3) := by decide +kernel
theorem dX8_init_216 : decode cX8_init 216 = .ok (.aload_n 0, 1) := by decide +kernel
theorem dX8_init_217 : decode cX8_init 217 = .ok (.sipush 180, 3) := by decide +kernel
theorem dX8_init_220 : decode cX8_init 220 = .ok (.newarray .int, 2) := by decide +kernel
theorem dX8_init_222 : decode cX8_init 222 = .ok (.putfield 89, 3) := by decide +kernel
theorem dX8_init_225 : decode cX8_init 225 = .ok (.aload_n 0, 1) := by decide +kernel
theorem dX8_init_226 : decode cX8_init 226 = .ok (.bipush 30, 2) := by decide +kernel
theorem dX8_init_228 : decode cX8_init 228 = .ok (.newarray .int, 2) := by decide +kernel
theorem dX8_init_230 : decode cX8_init 230 = .ok (.putfield 92, 3) := by decide +kernel
theorem dX8_init_233 : decode cX8_init 233 = .ok (.aload_n 0, 1) := by decide +kernel
theorem dX8_init_234 : decode cX8_init 234 = .ok (.iconst 4, 1) := by decide +kernel
theorem dX8_init_235 : decode cX8_init 235 = .ok (.newarray .int, 2) := by decide +kernel
theorem dX8_init_237 : decode cX8_init 237 = .ok (.putfield 95, 3) := by decide +kernel
theorem dX8_init_240 : decode cX8_init 240 = .ok (.aload_n 0, 1) := by decide +kernel
theorem dX8_init_241 : decode cX8_init 241 = .ok (.bipush 6, 2) := by decide +kernel
theorem dX8_init_243 : decode cX8_init 243 = .ok (.newarray .int, 2) := by decide +kernel
theorem dX8_init_245 : decode cX8_init 245 = .ok (.putfield 98, 3) := by decide +kernel
theorem dX8_init_248 : decode cX8_init 248 = .ok (.aload_n 0, 1) := by decide +kernel
theorem dX8_init_249 : decode cX8_init 249 = .ok (.bipush 40, 2) := by decide +kernel
theorem dX8_init_251 : decode cX8_init 251 = .ok (.newarray .int, 2) := by decide +kernel
theorem dX8_init_253 : decode cX8_init 253 = .ok (.putfield 101, 3) := by decide +kernel
theorem dX8_init_256 : decode cX8_init 256 = .ok (.aload_n 0, 1) := by decide +kernel
theorem dX8_init_257 : decode cX8_init 257 = .ok (.bipush 40, 2) := by decide +kernel
theorem dX8_init_259 : decode cX8_init 259 = .ok (.newarray .int, 2) := by decide +kernel
theorem dX8_init_261 : decode cX8_init 261 = .ok (.putfield 104, 3) := by decide +kernel
theorem dX8_init_264 : decode cX8_init 264 = .ok (.aload_n 0, 1) := by decide +kernel
theorem dX8_init_265 : decode cX8_init 265 = .ok (.bipush 40, 2) := by decide +kernel
theorem dX8_init_267 : decode cX8_init 267 = .ok (.newarray .int, 2) := by decide +kernel
theorem dX8_init_269 : decode cX8_init 269 = .ok (.putfield 107, 3) := by decide +kernel
theorem dX8_init_272 : decode cX8_init 272 = .ok (.return_, 1) := by decide +kernel
theorem dX8_thrown_0 : decode cX8_thrown 0 = .ok (.aload_n 0, 1) := by decide +kernel
theorem dX8_thrown_1 : decode cX8_thrown 1 = .ok (.getfield 110, 3) := by decide +kernel
theorem dX8_thrown_4 : decode cX8_thrown 4 = .ok (.ireturn, 1) := by decide +kernel
theorem dX8_isIn_0 : decode cX8_isIn 0 = .ok (.iload_n 0, 1) := by decide +kernel
theorem dX8_isIn_1 : decode cX8_isIn 1 = .ok (.iload_n 1, 1) := by decide +kernel
theorem dX8_isIn_2 : decode cX8_isIn 2 = .ok (.if_icmp .lt 12, 3) := by decide +kernel
theorem dX8_isIn_5 : decode cX8_isIn 5 = .ok (.iload_n 0, 1) := by decide +kernel
theorem dX8_isIn_6 : decode cX8_isIn 6 = .ok (.iload_n 2, 1) := by decide +kernel
theorem dX8_isIn_7 : decode cX8_isIn 7 = .ok (.if_icmp .gt 7, 3) := by decide +kernel
theorem dX8_isIn_10 : decode cX8_isIn 10 = .ok (.iconst 1, 1) := by decide +kernel
theorem dX8_isIn_11 : decode cX8_isIn 11 = .ok (.goto 4, 3) := by decide +kernel
theorem dX8_isIn_14 : decode cX8_isIn 14 = .ok (.iconst 0, 1) := by decide +kernel
theorem dX8_isIn_15 : decode cX8_isIn 15 = .ok (.ireturn, 1) := by decide +kernel
theorem dX8_byteOf_0 : decode cX8_byteOf 0 = .ok (.lload_n 0, 1) := by decide +kernel
theorem dX8_byteOf_1 : decode cX8_byteOf 1 = .ok (.bipush 8, 2) := by decide +kernel
theorem dX8_byteOf_3 : decode cX8_byteOf 3 = .ok (.iload_n 2, 1) := by decide +kernel
theorem dX8_byteOf_4 : decode cX8_byteOf 4 = .ok (.imul, 1) := by decide +kernel
theorem dX8_byteOf_5 : decode cX8_byteOf 5 = .ok (.lushr, 1) := by decide +kernel
theorem dX8_byteOf_6 : decode cX8_byteOf 6 = .ok (.ldc2_w 114, 3) := by decide +kernel
theorem dX8_byteOf_9 : decode cX8_byteOf 9 = .ok (.land, 1) := by decide +kernel
theorem dX8_byteOf_10 : decode cX8_byteOf 10 = .ok (.l2i, 1) := by decide +kernel
theorem dX8_byteOf_11 : decode cX8_byteOf 11 = .ok (.ireturn, 1) := by decide +kernel
theorem dX8_type_0 : decode cX8_type 0 = .ok (.iconst 1, 1) := by decide +kernel
theorem dX8_type_1 : decode cX8_type 1 = .ok (.istore_n 3, 1) := by decide +kernel
theorem dX8_type_2 : decode cX8_type 2 = .ok (.iconst 0, 1) := by decide +kernel
theorem dX8_type_3 : decode cX8_type 3 = .ok (.istore 4, 2) := by decide +kernel
theorem dX8_type_5 : decode cX8_type 5 = .ok (.iconst 0, 1) := by decide +kernel
theorem dX8_type_6 : decode cX8_type 6 = .ok (.istore 5, 2) := by decide +kernel
theorem dX8_type_8 : decode cX8_type 8 = .ok (.iload 5, 2) := by decide +kernel
theorem dX8_type_10 : decode cX8_type 10 = .ok (.bipush 8, 2) := by decide +kernel
theorem dX8_type_12 : decode cX8_type 12 = .ok (.if_icmp .ge 66, 3) := by decide +kernel
theorem dX8_type_15 : decode cX8_type 15 = .ok (.lload_n 1, 1) := by decide +kernel
theorem dX8_type_16 : decode cX8_type 16 = .ok (.iload 5, 2) := by decide +kernel
theorem dX8_type_18 : decode cX8_type 18 = .ok (.invokestatic 116, 3) := by decide +kernel
theorem dX8_type_21 : decode cX8_type 21 = .ok (.istore 6, 2) := by decide +kernel
theorem dX8_type_23 : decode cX8_type 23 = .ok (.iload_n 3, 1) := by decide +kernel
theorem dX8_type_24 : decode cX8_type 24 = .ok (.ifCond .eq 31, 3) := by decide +kernel
theorem dX8_type_27 : decode cX8_type 27 = .ok (.iload 6, 2) := by decide +kernel
theorem dX8_type_29 : decode cX8_type 29 = .ok (.ifCond .eq 22, 3) := by decide +kernel
theorem dX8_type_32 : decode cX8_type 32 = .ok (.iload 6, 2) := by decide +kernel
theorem dX8_type_34 : decode cX8_type 34 = .ok (.bipush 32, 2) := by decide +kernel
theorem dX8_type_36 : decode cX8_type 36 = .ok (.bipush 126, 2) := by decide +kernel
theorem dX8_type_38 : decode cX8_type 38 = .ok (.invokestatic 120, 3) := by decide +kernel
theorem dX8_type_41 : decode cX8_type 41 = .ok (.ifCond .eq 14, 3) := by decide +kernel
theorem dX8_type_44 : decode cX8_type 44 = .ok (.iload 4, 2) := by decide +kernel
theorem dX8_type_46 : decode cX8_type 46 = .ok (.iload 5, 2) := by decide +kernel
theorem dX8_type_48 : decode cX8_type 48 = .ok (.if_icmp .ne 7, 3) := by decide +kernel
theorem dX8_type_51 : decode cX8_type 51 = .ok (.iconst 1, 1) := by decide +kernel
theorem dX8_type_52 : decode cX8_type 52 = .ok (.goto 4, 3) := by decide +kernel
theorem dX8_type_55 : decode cX8_type 55 = .ok (.iconst 0, 1) := by decide +kernel
theorem dX8_type_56 : decode cX8_type 56 = .ok (.istore_n 3, 1) := by decide +kernel
theorem dX8_type_57 : decode cX8_type 57 = .ok (.iload 4, 2) := by decide +kernel
theorem dX8_type_59 : decode cX8_type 59 = .ok (.iload 6, 2) := by decide +kernel
theorem dX8_type_61 : decode cX8_type 61 = .ok (.ifCond .ne 7, 3) := by decide +kernel
theorem dX8_type_64 : decode cX8_type 64 = .ok (.iconst 0, 1) := by decide +kernel
theorem dX8_type_65 : decode cX8_type 65 = .ok (.goto 4, 3) := by decide +kernel
theorem dX8_type_68 : decode cX8_type 68 = .ok (.iconst 1, 1) := by decide +kernel
theorem dX8_type_69 : decode cX8_type 69 = .ok (.iadd, 1) := by decide +kernel
theorem dX8_type_70 : decode cX8_type 70 = .ok (.istore 4, 2) := by decide +kernel
theorem dX8_type_72 : decode cX8_type 72 = .ok (.iinc 5 1, 3) := by decide +kernel
theorem dX8_type_75 : decode cX8_type 75 = .ok (.goto (-67), 3) := by decide +kernel
theorem dX8_type_78 : decode cX8_type 78 = .ok (.aload_n 0, 1) := by decide +kernel
theorem dX8_type_79 : decode cX8_type 79 = .ok (.iload_n 3, 1) := by decide +kernel
theorem dX8_type_80 : decode cX8_type 80 = .ok (.ifCond .ne 7, 3) := by decide +kernel
theorem dX8_type_83 : decode cX8_type 83 = .ok (.iconst 1, 1) := by decide +kernel
theorem dX8_type_84 : decode cX8_type 84 = .ok (.goto 21, 3) := by decide +kernel
theorem dX8_type_87 : decode cX8_type 87 = .ok (.aload_n 0, 1) := by decide +kernel
theorem dX8_type_88 : decode cX8_type 88 = .ok (.getfield 124, 3) := by decide +kernel
theorem dX8_type_91 : decode cX8_type 91 = .ok (.iload 4, 2) := by decide +kernel
theorem dX8_type_93 : decode cX8_type 93 = .ok (.iadd, 1) := by decide +kernel
theorem dX8_type_94 : decode cX8_type 94 = .ok (.sipush 160, 3) := by decide +kernel
theorem dX8_type_97 : decode cX8_type 97 = .ok (.if_icmp .le 7, 3) := by decide +kernel
theorem dX8_type_100 : decode cX8_type 100 = .ok (.iconst 2, 1) := by decide +kernel
theorem dX8_type_101 : decode cX8_type 101 = .ok (.goto 4, 3) := by decide +kernel
theorem dX8_type_104 : decode cX8_type 104 = .ok (.iconst 0, 1) := by decide +kernel
theorem dX8_type_105 : decode cX8_type 105 = .ok (.putfield 110, 3) := by decide +kernel
theorem dX8_type_108 : decode cX8_type 108 = .ok (.aload_n 0, 1) := by decide +kernel
theorem dX8_type_109 : decode cX8_type 109 = .ok (.getfield 110, 3) := by decide +kernel
theorem dX8_type_112 : decode cX8_type 112 = .ok (.ifCond .le 5, 3) := by decide +kernel
theorem dX8_type_115 : decode cX8_type 115 = .ok (.iconst 0, 1) := by decide +kernel
theorem dX8_type_116 : decode cX8_type 116 = .ok (.ireturn, 1) := by decide +kernel
theorem dX8_type_117 : decode cX8_type 117 = .ok (.iconst 0, 1) := by decide +kernel
theorem dX8_type_118 : decode cX8_type 118 = .ok (.istore 5, 2) := by decide +kernel
theorem dX8_type_120 : decode cX8_type 120 = .ok (.iload 5, 2) := by decide +kernel
theorem dX8_type_122 : decode cX8_type 122 = .ok (.iload 4, 2) := by decide +kernel
theorem dX8_type_124 : decode cX8_type 124 = .ok (.if_icmp .ge 27, 3) := by decide +kernel
theorem dX8_type_127 : decode cX8_type 127 = .ok (.aload_n 0, 1) := by decide +kernel
theorem dX8_type_128 : decode cX8_type 128 = .ok (.getfield 7, 3) := by decide +kernel
theorem dX8_type_131 : decode cX8_type 131 = .ok (.aload_n 0, 1) := by decide +kernel
theorem dX8_type_132 : decode cX8_type 132 = .ok (.getfield 124, 3) := by decide +kernel
theorem dX8_type_135 : decode cX8_type 135 = .ok (.iload 5, 2) := by decide +kernel
theorem dX8_type_137 : decode cX8_type 137 = .ok (.iadd, 1) := by decide +kernel
theorem dX8_type_138 : decode cX8_type 138 = .ok (.lload_n 1, 1) := by decide +kernel
theorem dX8_type_139 : decode cX8_type 139 = .ok (.iload 5, 2) := by decide +kernel
theorem dX8_type_141 : decode cX8_type 141 = .ok (.invokestatic 116, 3) := by decide +kernel
theorem dX8_type_144 : decode cX8_type 144 = .ok (.iastore, 1) := by decide +kernel
theorem dX8_type_145 : decode cX8_type 145 = .ok (.iinc 5 1, 3) := by decide +kernel
theorem dX8_type_148 : decode cX8_type 148 = .ok (.goto (-28), 3) := by decide +kernel
theorem dX8_type_151 : decode cX8_type 151 = .ok (.aload_n 0, 1) := by decide +kernel
theorem dX8_type_152 : decode cX8_type 152 = .ok (.dup, 1) := by decide +kernel
theorem dX8_type_153 : decode cX8_type 153 = .ok (.getfield 124, 3) := by decide +kernel
theorem dX8_type_156 : decode cX8_type 156 = .ok (.iload 4, 2) := by decide +kernel
theorem dX8_type_158 : decode cX8_type 158 = .ok (.iadd, 1) := by decide +kernel
theorem dX8_type_159 : decode cX8_type 159 = .ok (.putfield 124, 3) := by decide +kernel
theorem dX8_type_162 : decode cX8_type 162 = .ok (.aload_n 0, 1) := by decide +kernel
theorem dX8_type_163 : decode cX8_type 163 = .ok (.getfield 124, 3) := by decide +kernel
theorem dX8_type_166 : decode cX8_type 166 = .ok (.ireturn, 1) := by decide +kernel
theorem dX8_sign_0 : decode cX8_sign 0 = .ok (.iload_n 1, 1) := by decide +kernel
theorem dX8_sign_1 : decode cX8_sign 1 = .ok (.aload_n 0, 1) := by decide +kernel
theorem dX8_sign_2 : decode cX8_sign 2 = .ok (.getfield 124, 3) := by decide +kernel
theorem dX8_sign_5 : decode cX8_sign 5 = .ok (.if_icmp .ge 12, 3) := by decide +kernel
theorem dX8_sign_8 : decode cX8_sign 8 = .ok (.aload_n 0, 1) := by decide +kernel
theorem dX8_sign_9 : decode cX8_sign 9 = .ok (.getfield 7, 3) := by decide +kernel
theorem dX8_sign_12 : decode cX8_sign 12 = .ok (.iload_n 1, 1) := by decide +kernel
theorem dX8_sign_13 : decode cX8_sign 13 = .ok (.iaload, 1) := by decide +kernel
theorem dX8_sign_14 : decode cX8_sign 14 = .ok (.goto 4, 3) := by decide +kernel
theorem dX8_sign_17 : decode cX8_sign 17 = .ok (.iconst (-1), 1) := by decide +kernel
theorem dX8_sign_18 : decode cX8_sign 18 = .ok (.ireturn, 1) := by decide +kernel
theorem dX8_isInLoop_0 : decode cX8_isInLoop 0 = .ok (.iconst 0, 1) := by decide +kernel
theorem dX8_isInLoop_1 : decode cX8_isInLoop 1 = .ok (.istore_n 1, 1) := by decide +kernel
theorem dX8_isInLoop_2 : decode cX8_isInLoop 2 = .ok (.iconst 0, 1) := by decide +kernel
theorem dX8_isInLoop_3 : decode cX8_isInLoop 3 = .ok (.istore_n 2, 1) := by decide +kernel
theorem dX8_isInLoop_4 : decode cX8_isInLoop 4 = .ok (.iload_n 2, 1) := by decide +kernel
theorem dX8_isInLoop_5 : decode cX8_isInLoop 5 = .ok (.aload_n 0, 1) := by decide +kernel
theorem dX8_isInLoop_6 : decode cX8_isInLoop 6 = .ok (.getfield 127, 3) := by decide +kernel
theorem dX8_isInLoop_9 : decode cX8_isInLoop 9 = .ok (.if_icmp .ge 28, 3) := by decide +kernel
theorem dX8_isInLoop_12 : decode cX8_isInLoop 12 = .ok (.iload_n 1, 1) := by decide +kernel
theorem dX8_isInLoop_13 : decode cX8_isInLoop 13 = .ok (.ifCond .ne 12, 3) := by decide +kernel
theorem dX8_isInLoop_16 : decode cX8_isInLoop 16 = .ok (.aload_n 0, 1) := by decide +kernel
theorem dX8_isInLoop_17 : decode cX8_isInLoop 17 = .ok (.getfield 28, 3) := by decide +kernel
theorem dX8_isInLoop_20 : decode cX8_isInLoop 20 = .ok (.iload_n 2, 1) := by decide +kernel
theorem dX8_isInLoop_21 : decode cX8_isInLoop 21 = .ok (.baload, 1) := by decide +kernel
theorem dX8_isInLoop_22 : decode cX8_isInLoop 22 = .ok (.ifCond .eq 7, 3) := by decide +kernel
theorem dX8_isInLoop_25 : decode cX8_isInLoop 25 = .ok (.iconst 1, 1) := by decide +kernel
theorem dX8_isInLoop_26 : decode cX8_isInLoop 26 = .ok (.goto 4, 3) := by decide +kernel
theorem dX8_isInLoop_29 : decode cX8_isInLoop 29 = .ok (.iconst 0, 1) := by decide +kernel
theorem dX8_isInLoop_30 : decode cX8_isInLoop 30 = .ok (.istore_n 1, 1) := by decide +kernel
theorem dX8_isInLoop_31 : decode cX8_isInLoop 31 = .ok (.iinc 2 1, 3) := by decide +kernel
theorem dX8_isInLoop_34 : decode cX8_isInLoop 34 = .ok (.goto (-30), 3) := by decide +kernel
theorem dX8_isInLoop_37 : decode cX8_isInLoop 37 = .ok (.iload_n 1, 1) := by decide +kernel
theorem dX8_isInLoop_38 : decode cX8_isInLoop 38 = .ok (.ireturn, 1) := by decide +kernel
theorem dX8_isName_0 : decode cX8_isName 0 = .ok (.iload_n 1, 1) := by decide +kernel
theorem dX8_isName_1 : decode cX8_isName 1 = .ok (.bipush 110, 2) := by decide +kernel
theorem dX8_isName_3 : decode cX8_isName 3 = .ok (.if_icmp .eq 39, 3) := by decide +kernel
theorem dX8_isName_6 : decode cX8_isName 6 = .ok (.iload_n 1, 1) := by decide +kernel
theorem dX8_isName_7 : decode cX8_isName 7 = .ok (.bipush 99, 2) := by decide +kernel
theorem dX8_isName_9 : decode cX8_isName 9 = .ok (.if_icmp .eq 33, 3) := by decide +kernel
theorem dX8_isName_12 : decode cX8_isName 12 = .ok (.iload_n 1, 1) := by decide +kernel
theorem dX8_isName_13 : decode cX8_isName 13 = .ok (.bipush 100, 2) := by decide +kernel
theorem dX8_isName_15 : decode cX8_isName 15 = .ok (.if_icmp .eq 27, 3) := by decide +kernel
theorem dX8_isName_18 : decode cX8_isName 18 = .ok (.iload_n 1, 1) := by decide +kernel
theorem dX8_isName_19 : decode cX8_isName 19 = .ok (.bipush 108, 2) := by decide +kernel
theorem dX8_isName_21 : decode cX8_isName 21 = .ok (.if_icmp .eq 21, 3) := by decide +kernel
theorem dX8_isName_24 : decode cX8_isName 24 = .ok (.iload_n 1, 1) := by decide +kernel
theorem dX8_isName_25 : decode cX8_isName 25 = .ok (.bipush 115, 2) := by decide +kernel
theorem dX8_isName_27 : decode cX8_isName 27 = .ok (.if_icmp .eq 15, 3) := by decide +kernel
theorem dX8_isName_30 : decode cX8_isName 30 = .ok (.iload_n 1, 1) := by decide +kernel
theorem dX8_isName_31 : decode cX8_isName 31 = .ok (.bipush 116, 2) := by decide +kernel
theorem dX8_isName_33 : decode cX8_isName 33 = .ok (.if_icmp .eq 9, 3) := by decide +kernel
theorem dX8_isName_36 : decode cX8_isName 36 = .ok (.iload_n 1, 1) := by decide +kernel
theorem dX8_isName_37 : decode cX8_isName 37 = .ok (.bipush 103, 2) := by decide +kernel
theorem dX8_isName_39 : decode cX8_isName 39 = .ok (.if_icmp .ne 7, 3) := by decide +kernel
theorem dX8_isName_42 : decode cX8_isName 42 = .ok (.iconst 1, 1) := by decide +kernel
theorem dX8_isName_43 : decode cX8_isName 43 = .ok (.goto 4, 3) := by decide +kernel
theorem dX8_isName_46 : decode cX8_isName 46 = .ok (.iconst 0, 1) := by decide +kernel
theorem dX8_isName_47 : decode cX8_isName 47 = .ok (.istore_n 2, 1) := by decide +kernel
theorem dX8_isName_48 : decode cX8_isName 48 = .ok (.iload_n 2, 1) := by decide +kernel
theorem dX8_isName_49 : decode cX8_isName 49 = .ok (.ifCond .ne 46, 3) := by decide +kernel
theorem dX8_isName_52 : decode cX8_isName 52 = .ok (.aload_n 0, 1) := by decide +kernel
theorem dX8_isName_53 : decode cX8_isName 53 = .ok (.invokevirtual 130, 3) := by decide +kernel
theorem dX8_isName_56 : decode cX8_isName 56 = .ok (.ifCond .eq 43, 3) := by decide +kernel
theorem dX8_isName_59 : decode cX8_isName 59 = .ok (.iload_n 1, 1) := by decide +kernel
theorem dX8_isName_60 : decode cX8_isName 60 = .ok (.bipush 105, 2) := by decide +kernel
theorem dX8_isName_62 : decode cX8_isName 62 = .ok (.if_icmp .eq 33, 3) := by decide +kernel
theorem dX8_isName_65 : decode cX8_isName 65 = .ok (.iload_n 1, 1) := by decide +kernel
theorem dX8_isName_66 : decode cX8_isName 66 = .ok (.bipush 107, 2) := by decide +kernel
theorem dX8_isName_68 : decode cX8_isName 68 = .ok (.if_icmp .eq 27, 3) := by decide +kernel
theorem dX8_isName_71 : decode cX8_isName 71 = .ok (.iload_n 1, 1) := by decide +kernel
theorem dX8_isName_72 : decode cX8_isName 72 = .ok (.bipush 113, 2) := by decide +kernel
theorem dX8_isName_74 : decode cX8_isName 74 = .ok (.if_icmp .eq 21, 3) := by decide +kernel
theorem dX8_isName_77 : decode cX8_isName 77 = .ok (.iload_n 1, 1) := by decide +kernel
theorem dX8_isName_78 : decode cX8_isName 78 = .ok (.bipush 112, 2) := by decide +kernel
theorem dX8_isName_80 : decode cX8_isName 80 = .ok (.if_icmp .eq 15, 3) := by decide +kernel
theorem dX8_isName_83 : decode cX8_isName 83 = .ok (.iload_n 1, 1) := by decide +kernel
theorem dX8_isName_84 : decode cX8_isName 84 = .ok (.bipush 97, 2) := by decide +kernel
theorem dX8_isName_86 : decode cX8_isName 86 = .ok (.if_icmp .eq 9, 3) := by decide +kernel
theorem dX8_isName_89 : decode cX8_isName 89 = .ok (.iload_n 1, 1) := by decide +kernel
theorem dX8_isName_90 : decode cX8_isName 90 = .ok (.bipush 120, 2) := by decide +kernel
theorem dX8_isName_92 : decode cX8_isName 92 = .ok (.if_icmp .ne 7, 3) := by decide +kernel
theorem dX8_isName_95 : decode cX8_isName 95 = .ok (.iconst 1, 1) := by decide +kernel
theorem dX8_isName_96 : decode cX8_isName 96 = .ok (.goto 4, 3) := by decide +kernel
theorem dX8_isName_99 : decode cX8_isName 99 = .ok (.iconst 0, 1) := by decide +kernel
theorem dX8_isName_100 : decode cX8_isName 100 = .ok (.ireturn, 1) := by decide +kernel
theorem dX8_isDigit_0 : decode cX8_isDigit 0 = .ok (.iload_n 0, 1) := by decide +kernel
theorem dX8_isDigit_1 : decode cX8_isDigit 1 = .ok (.bipush 48, 2) := by decide +kernel
theorem dX8_isDigit_3 : decode cX8_isDigit 3 = .ok (.bipush 57, 2) := by decide +kernel
theorem dX8_isDigit_5 : decode cX8_isDigit 5 = .ok (.invokestatic 120, 3) := by decide +kernel
theorem dX8_isDigit_8 : decode cX8_isDigit 8 = .ok (.ireturn, 1) := by decide +kernel
theorem dX8_term_0 : decode cX8_term 0 = .ok (.iconst 0, 1) := by decide +kernel
theorem dX8_term_1 : decode cX8_term 1 = .ok (.istore_n 1, 1) := by decide +kernel
theorem dX8_term_2 : decode cX8_term 2 = .ok (.iload_n 1, 1) := by decide +kernel
theorem dX8_term_3 : decode cX8_term 3 = .ok (.bipush 6, 2) := by decide +kernel
theorem dX8_term_5 : decode cX8_term 5 = .ok (.if_icmp .ge 33, 3) := by decide +kernel
theorem dX8_term_8 : decode cX8_term 8 = .ok (.aload_n 0, 1) := by decide +kernel
theorem dX8_term_9 : decode cX8_term 9 = .ok (.aload_n 0, 1) := by decide +kernel
theorem dX8_term_10 : decode cX8_term 10 = .ok (.getfield 134, 3) := by decide +kernel
theorem dX8_term_13 : decode cX8_term 13 = .ok (.invokevirtual 137, 3) := by decide +kernel
theorem dX8_term_16 : decode cX8_term 16 = .ok (.invokestatic 141, 3) := by decide +kernel
theorem dX8_term_19 : decode cX8_term 19 = .ok (.ifCond .eq 19, 3) := by decide +kernel
theorem dX8_term_22 : decode cX8_term 22 = .ok (.aload_n 0, 1) := by decide +kernel
theorem dX8_term_23 : decode cX8_term 23 = .ok (.dup, 1) := by decide +kernel
theorem dX8_term_24 : decode cX8_term 24 = .ok (.getfield 134, 3) := by decide +kernel
theorem dX8_term_27 : decode cX8_term 27 = .ok (.iconst 1, 1) := by decide +kernel
theorem dX8_term_28 : decode cX8_term 28 = .ok (.iadd, 1) := by decide +kernel
theorem dX8_term_29 : decode cX8_term 29 = .ok (.putfield 134, 3) := by decide +kernel
theorem dX8_term_32 : decode cX8_term 32 = .ok (.iinc 1 1, 3) := by decide +kernel
theorem dX8_term_35 : decode cX8_term 35 = .ok (.goto (-33), 3) := by decide +kernel
theorem dX8_term_38 : decode cX8_term 38 = .ok (.iload_n 1, 1) := by decide +kernel
theorem dX8_term_39 : decode cX8_term 39 = .ok (.ifCond .ne 31, 3) := by decide +kernel
theorem dX8_term_42 : decode cX8_term 42 = .ok (.aload_n 0, 1) := by decide +kernel
theorem dX8_term_43 : decode cX8_term 43 = .ok (.aload_n 0, 1) := by decide +kernel
theorem dX8_term_44 : decode cX8_term 44 = .ok (.aload_n 0, 1) := by decide +kernel
theorem dX8_term_45 : decode cX8_term 45 = .ok (.getfield 134, 3) := by decide +kernel
theorem dX8_term_48 : decode cX8_term 48 = .ok (.invokevirtual 137, 3) := by decide +kernel
theorem dX8_term_51 : decode cX8_term 51 = .ok (.invokevirtual 145, 3) := by decide +kernel
theorem dX8_term_54 : decode cX8_term 54 = .ok (.ifCond .eq 16, 3) := by decide +kernel
theorem dX8_term_57 : decode cX8_term 57 = .ok (.aload_n 0, 1) := by decide +kernel
theorem dX8_term_58 : decode cX8_term 58 = .ok (.dup, 1) := by decide +kernel
theorem dX8_term_59 : decode cX8_term 59 = .ok (.getfield 134, 3) := by decide +kernel
theorem dX8_term_62 : decode cX8_term 62 = .ok (.iconst 1, 1) := by decide +kernel
theorem dX8_term_63 : decode cX8_term 63 = .ok (.iadd, 1) := by decide +kernel
theorem dX8_term_64 : decode cX8_term 64 = .ok (.putfield 134, 3) := by decide +kernel
theorem dX8_term_67 : decode cX8_term 67 = .ok (.goto 15, 3) := by decide +kernel
theorem dX8_term_70 : decode cX8_term 70 = .ok (.iload_n 1, 1) := by decide +kernel
theorem dX8_term_71 : decode cX8_term 71 = .ok (.ifCond .ne 11, 3) := by decide +kernel
theorem dX8_term_74 : decode cX8_term 74 = .ok (.aload_n 0, 1) := by decide +kernel
theorem dX8_term_75 : decode cX8_term 75 = .ok (.aload_n 0, 1) := by decide +kernel
theorem dX8_term_76 : decode cX8_term 76 = .ok (.getfield 134, 3) := by decide +kernel
theorem dX8_term_79 : decode cX8_term 79 = .ok (.putfield 148, 3) := by decide +kernel
theorem dX8_term_82 : decode cX8_term 82 = .ok (.return_, 1) := by decide +kernel
theorem dX8_sum_0 : decode cX8_sum 0 = .ok (.aload_n 0, 1) := by decide +kernel
theorem dX8_sum_1 : decode cX8_sum 1 = .ok (.invokevirtual 151, 3) := by decide +kernel
theorem dX8_sum_4 : decode cX8_sum 4 = .ok (.aload_n 0, 1) := by decide +kernel
theorem dX8_sum_5 : decode cX8_sum 5 = .ok (.getfield 148, 3) := by decide +kernel
theorem dX8_sum_8 : decode cX8_sum 8 = .ok (.iconst (-1), 1) := by decide +kernel
theorem dX8_sum_9 : decode cX8_sum 9 = .ok (.if_icmp .ne 46, 3) := by decide +kernel
theorem dX8_sum_12 : decode cX8_sum 12 = .ok (.aload_n 0, 1) := by decide +kernel
theorem dX8_sum_13 : decode cX8_sum 13 = .ok (.aload_n 0, 1) := by decide +kernel
theorem dX8_sum_14 : decode cX8_sum 14 = .ok (.getfield 134, 3) := by decide +kernel
theorem dX8_sum_17 : decode cX8_sum 17 = .ok (.invokevirtual 137, 3) := by decide +kernel
theorem dX8_sum_20 : decode cX8_sum 20 = .ok (.bipush 43, 2) := by decide +kernel
theorem dX8_sum_22 : decode cX8_sum 22 = .ok (.if_icmp .eq 16, 3) := by decide +kernel
theorem dX8_sum_25 : decode cX8_sum 25 = .ok (.aload_n 0, 1) := by decide +kernel
theorem dX8_sum_26 : decode cX8_sum 26 = .ok (.aload_n 0, 1) := by decide +kernel
theorem dX8_sum_27 : decode cX8_sum 27 = .ok (.getfield 134, 3) := by decide +kernel
theorem dX8_sum_30 : decode cX8_sum 30 = .ok (.invokevirtual 137, 3) := by decide +kernel
theorem dX8_sum_33 : decode cX8_sum 33 = .ok (.bipush 45, 2) := by decide +kernel
theorem dX8_sum_35 : decode cX8_sum 35 = .ok (.if_icmp .ne 20, 3) := by decide +kernel
theorem dX8_sum_38 : decode cX8_sum 38 = .ok (.aload_n 0, 1) := by decide +kernel
theorem dX8_sum_39 : decode cX8_sum 39 = .ok (.dup, 1) := by decide +kernel
theorem dX8_sum_40 : decode cX8_sum 40 = .ok (.getfield 134, 3) := by decide +kernel
theorem dX8_sum_43 : decode cX8_sum 43 = .ok (.iconst 1, 1) := by decide +kernel
theorem dX8_sum_44 : decode cX8_sum 44 = .ok (.iadd, 1) := by decide +kernel
theorem dX8_sum_45 : decode cX8_sum 45 = .ok (.putfield 134, 3) := by decide +kernel
theorem dX8_sum_48 : decode cX8_sum 48 = .ok (.aload_n 0, 1) := by decide +kernel
theorem dX8_sum_49 : decode cX8_sum 49 = .ok (.invokevirtual 151, 3) := by decide +kernel
theorem dX8_sum_52 : decode cX8_sum 52 = .ok (.goto (-48), 3) := by decide +kernel
theorem dX8_sum_55 : decode cX8_sum 55 = .ok (.return_, 1) := by decide +kernel
theorem dX8_expects_0 : decode cX8_expects 0 = .ok (.aload_n 0, 1) := by decide +kernel
theorem dX8_expects_1 : decode cX8_expects 1 = .ok (.getfield 148, 3) := by decide +kernel
theorem dX8_expects_4 : decode cX8_expects 4 = .ok (.iconst (-1), 1) := by decide +kernel
theorem dX8_expects_5 : decode cX8_expects 5 = .ok (.if_icmp .ne 15, 3) := by decide +kernel
theorem dX8_expects_8 : decode cX8_expects 8 = .ok (.iload_n 1, 1) := by decide +kernel
theorem dX8_expects_9 : decode cX8_expects 9 = .ok (.ifCond .ne 11, 3) := by decide +kernel
theorem dX8_expects_12 : decode cX8_expects 12 = .ok (.aload_n 0, 1) := by decide +kernel
theorem dX8_expects_13 : decode cX8_expects 13 = .ok (.aload_n 0, 1) := by decide +kernel
theorem dX8_expects_14 : decode cX8_expects 14 = .ok (.getfield 134, 3) := by decide +kernel
theorem dX8_expects_17 : decode cX8_expects 17 = .ok (.putfield 148, 3) := by decide +kernel
theorem dX8_expects_20 : decode cX8_expects 20 = .ok (.return_, 1) := by decide +kernel
theorem dX8_opens_0 : decode cX8_opens 0 = .ok (.aload_n 0, 1) := by decide +kernel
theorem dX8_opens_1 : decode cX8_opens 1 = .ok (.getfield 28, 3) := by decide +kernel
theorem dX8_opens_4 : decode cX8_opens 4 = .ok (.aload_n 0, 1) := by decide +kernel
theorem dX8_opens_5 : decode cX8_opens 5 = .ok (.getfield 127, 3) := by decide +kernel
theorem dX8_opens_8 : decode cX8_opens 8 = .ok (.iload_n 1, 1) := by decide +kernel
theorem dX8_opens_9 : decode cX8_opens 9 = .ok (.bastore, 1) := by decide +kernel
theorem dX8_opens_10 : decode cX8_opens 10 = .ok (.aload_n 0, 1) := by decide +kernel
theorem dX8_opens_11 : decode cX8_opens 11 = .ok (.getfield 32, 3) := by decide +kernel
theorem dX8_opens_14 : decode cX8_opens 14 = .ok (.aload_n 0, 1) := by decide +kernel
theorem dX8_opens_15 : decode cX8_opens 15 = .ok (.getfield 127, 3) := by decide +kernel
theorem dX8_opens_18 : decode cX8_opens 18 = .ok (.iload_n 2, 1) := by decide +kernel
theorem dX8_opens_19 : decode cX8_opens 19 = .ok (.iastore, 1) := by decide +kernel
theorem dX8_opens_20 : decode cX8_opens 20 = .ok (.aload_n 0, 1) := by decide +kernel
theorem dX8_opens_21 : decode cX8_opens 21 = .ok (.getfield 35, 3) := by decide +kernel
theorem dX8_opens_24 : decode cX8_opens 24 = .ok (.aload_n 0, 1) := by decide +kernel
theorem dX8_opens_25 : decode cX8_opens 25 = .ok (.getfield 127, 3) := by decide +kernel
theorem dX8_opens_28 : decode cX8_opens 28 = .ok (.iconst (-1), 1) := by decide +kernel
theorem dX8_opens_29 : decode cX8_opens 29 = .ok (.iastore, 1) := by decide +kernel
theorem dX8_opens_30 : decode cX8_opens 30 = .ok (.aload_n 0, 1) := by decide +kernel
theorem dX8_opens_31 : decode cX8_opens 31 = .ok (.dup, 1) := by decide +kernel
theorem dX8_opens_32 : decode cX8_opens 32 = .ok (.getfield 127, 3) := by decide +kernel
theorem dX8_opens_35 : decode cX8_opens 35 = .ok (.iconst 1, 1) := by decide +kernel
theorem dX8_opens_36 : decode cX8_opens 36 = .ok (.iadd, 1) := by decide +kernel
theorem dX8_opens_37 : decode cX8_opens 37 = .ok (.putfield 127, 3) := by decide +kernel
theorem dX8_opens_40 : decode cX8_opens 40 = .ok (.aload_n 0, 1) := by decide +kernel
theorem dX8_opens_41 : decode cX8_opens 41 = .ok (.dup, 1) := by decide +kernel
theorem dX8_opens_42 : decode cX8_opens 42 = .ok (.getfield 154, 3) := by decide +kernel
theorem dX8_opens_45 : decode cX8_opens 45 = .ok (.iconst 1, 1) := by decide +kernel
theorem dX8_opens_46 : decode cX8_opens 46 = .ok (.iadd, 1) := by decide +kernel
theorem dX8_opens_47 : decode cX8_opens 47 = .ok (.putfield 154, 3) := by decide +kernel
theorem dX8_opens_50 : decode cX8_opens 50 = .ok (.return_, 1) := by decide +kernel
theorem dX8_choice_0 : decode cX8_choice 0 = .ok (.aload_n 0, 1) := by decide +kernel
theorem dX8_choice_1 : decode cX8_choice 1 = .ok (.dup, 1) := by decide +kernel
theorem dX8_choice_2 : decode cX8_choice 2 = .ok (.getfield 134, 3) := by decide +kernel
theorem dX8_choice_5 : decode cX8_choice 5 = .ok (.iconst 1, 1) := by decide +kernel
theorem dX8_choice_6 : decode cX8_choice 6 = .ok (.iadd, 1) := by decide +kernel
theorem dX8_choice_7 : decode cX8_choice 7 = .ok (.putfield 134, 3) := by decide +kernel
theorem dX8_choice_10 : decode cX8_choice 10 = .ok (.aload_n 0, 1) := by decide +kernel
theorem dX8_choice_11 : decode cX8_choice 11 = .ok (.invokevirtual 157, 3) := by decide +kernel
theorem dX8_choice_14 : decode cX8_choice 14 = .ok (.aload_n 0, 1) := by decide +kernel
theorem dX8_choice_15 : decode cX8_choice 15 = .ok (.aload_n 0, 1) := by decide +kernel
theorem dX8_choice_16 : decode cX8_choice 16 = .ok (.aload_n 0, 1) := by decide +kernel
theorem dX8_choice_17 : decode cX8_choice 17 = .ok (.getfield 134, 3) := by decide +kernel
theorem dX8_choice_20 : decode cX8_choice 20 = .ok (.invokevirtual 137, 3) := by decide +kernel
theorem dX8_choice_23 : decode cX8_choice 23 = .ok (.bipush 60, 2) := by decide +kernel
theorem dX8_choice_25 : decode cX8_choice 25 = .ok (.if_icmp .eq 29, 3) := by decide +kernel
theorem dX8_choice_28 : decode cX8_choice 28 = .ok (.aload_n 0, 1) := by decide +kernel
theorem dX8_choice_29 : decode cX8_choice 29 = .ok (.aload_n 0, 1) := by decide +kernel
theorem dX8_choice_30 : decode cX8_choice 30 = .ok (.getfield 134, 3) := by decide +kernel
theorem dX8_choice_33 : decode cX8_choice 33 = .ok (.invokevirtual 137, 3) := by decide +kernel
theorem dX8_choice_36 : decode cX8_choice 36 = .ok (.bipush 62, 2) := by decide +kernel
theorem dX8_choice_38 : decode cX8_choice 38 = .ok (.if_icmp .eq 16, 3) := by decide +kernel
theorem dX8_choice_41 : decode cX8_choice 41 = .ok (.aload_n 0, 1) := by decide +kernel
theorem dX8_choice_42 : decode cX8_choice 42 = .ok (.aload_n 0, 1) := by decide +kernel
theorem dX8_choice_43 : decode cX8_choice 43 = .ok (.getfield 134, 3) := by decide +kernel
theorem dX8_choice_46 : decode cX8_choice 46 = .ok (.invokevirtual 137, 3) := by decide +kernel
theorem dX8_choice_49 : decode cX8_choice 49 = .ok (.bipush 61, 2) := by decide +kernel
theorem dX8_choice_51 : decode cX8_choice 51 = .ok (.if_icmp .ne 7, 3) := by decide +kernel
theorem dX8_choice_54 : decode cX8_choice 54 = .ok (.iconst 1, 1) := by decide +kernel
theorem dX8_choice_55 : decode cX8_choice 55 = .ok (.goto 4, 3) := by decide +kernel
theorem dX8_choice_58 : decode cX8_choice 58 = .ok (.iconst 0, 1) := by decide +kernel
theorem dX8_choice_59 : decode cX8_choice 59 = .ok (.invokevirtual 160, 3) := by decide +kernel
theorem dX8_choice_62 : decode cX8_choice 62 = .ok (.aload_n 0, 1) := by decide +kernel
theorem dX8_choice_63 : decode cX8_choice 63 = .ok (.getfield 148, 3) := by decide +kernel
theorem dX8_choice_66 : decode cX8_choice 66 = .ok (.iconst (-1), 1) := by decide +kernel
theorem dX8_choice_67 : decode cX8_choice 67 = .ok (.if_icmp .ne 17, 3) := by decide +kernel
theorem dX8_choice_70 : decode cX8_choice 70 = .ok (.aload_n 0, 1) := by decide +kernel
theorem dX8_choice_71 : decode cX8_choice 71 = .ok (.dup, 1) := by decide +kernel
theorem dX8_choice_72 : decode cX8_choice 72 = .ok (.getfield 134, 3) := by decide +kernel
theorem dX8_choice_75 : decode cX8_choice 75 = .ok (.iconst 1, 1) := by decide +kernel
theorem dX8_choice_76 : decode cX8_choice 76 = .ok (.iadd, 1) := by decide +kernel
theorem dX8_choice_77 : decode cX8_choice 77 = .ok (.putfield 134, 3) := by decide +kernel
theorem dX8_choice_80 : decode cX8_choice 80 = .ok (.aload_n 0, 1) := by decide +kernel
theorem dX8_choice_81 : decode cX8_choice 81 = .ok (.invokevirtual 157, 3) := by decide +kernel
theorem dX8_choice_84 : decode cX8_choice 84 = .ok (.aload_n 0, 1) := by decide +kernel
theorem dX8_choice_85 : decode cX8_choice 85 = .ok (.aload_n 0, 1) := by decide +kernel
theorem dX8_choice_86 : decode cX8_choice 86 = .ok (.aload_n 0, 1) := by decide +kernel
theorem dX8_choice_87 : decode cX8_choice 87 = .ok (.getfield 134, 3) := by decide +kernel
theorem dX8_choice_90 : decode cX8_choice 90 = .ok (.invokevirtual 137, 3) := by decide +kernel
theorem dX8_choice_93 : decode cX8_choice 93 = .ok (.bipush 58, 2) := by decide +kernel
theorem dX8_choice_95 : decode cX8_choice 95 = .ok (.if_icmp .ne 7, 3) := by decide +kernel
theorem dX8_choice_98 : decode cX8_choice 98 = .ok (.iconst 1, 1) := by decide +kernel
theorem dX8_choice_99 : decode cX8_choice 99 = .ok (.goto 4, 3) := by decide +kernel
theorem dX8_choice_102 : decode cX8_choice 102 = .ok (.iconst 0, 1) := by decide +kernel
theorem dX8_choice_103 : decode cX8_choice 103 = .ok (.invokevirtual 160, 3) := by decide +kernel
theorem dX8_choice_106 : decode cX8_choice 106 = .ok (.aload_n 0, 1) := by decide +kernel
theorem dX8_choice_107 : decode cX8_choice 107 = .ok (.getfield 148, 3) := by decide +kernel
theorem dX8_choice_110 : decode cX8_choice 110 = .ok (.iconst (-1), 1) := by decide +kernel
theorem dX8_choice_111 : decode cX8_choice 111 = .ok (.if_icmp .ne 19, 3) := by decide +kernel
theorem dX8_choice_114 : decode cX8_choice 114 = .ok (.aload_n 0, 1) := by decide +kernel
theorem dX8_choice_115 : decode cX8_choice 115 = .ok (.dup, 1) := by decide +kernel
theorem dX8_choice_116 : decode cX8_choice 116 = .ok (.getfield 134, 3) := by decide +kernel
theorem dX8_choice_119 : decode cX8_choice 119 = .ok (.iconst 1, 1) := by decide +kernel
theorem dX8_choice_120 : decode cX8_choice 120 = .ok (.iadd, 1) := by decide +kernel
theorem dX8_choice_121 : decode cX8_choice 121 = .ok (.putfield 134, 3) := by decide +kernel
theorem dX8_choice_124 : decode cX8_choice 124 = .ok (.aload_n 0, 1) := by decide +kernel
theorem dX8_choice_125 : decode cX8_choice 125 = .ok (.iconst 0, 1) := by decide +kernel
theorem dX8_choice_126 : decode cX8_choice 126 = .ok (.iload_n 1, 1) := by decide +kernel
theorem dX8_choice_127 : decode cX8_choice 127 = .ok (.invokevirtual 164, 3) := by decide +kernel
theorem dX8_choice_130 : decode cX8_choice 130 = .ok (.return_, 1) := by decide +kernel
theorem dX8_field_0 : decode cX8_field 0 = .ok (.aload_n 0, 1) := by decide +kernel
theorem dX8_field_1 : decode cX8_field 1 = .ok (.dup, 1) := by decide +kernel
theorem dX8_field_2 : decode cX8_field 2 = .ok (.getfield 134, 3) := by decide +kernel
theorem dX8_field_5 : decode cX8_field 5 = .ok (.iconst 1, 1) := by decide +kernel
theorem dX8_field_6 : decode cX8_field 6 = .ok (.iadd, 1) := by decide +kernel
theorem dX8_field_7 : decode cX8_field 7 = .ok (.putfield 134, 3) := by decide +kernel
theorem dX8_field_10 : decode cX8_field 10 = .ok (.aload_n 0, 1) := by decide +kernel
theorem dX8_field_11 : decode cX8_field 11 = .ok (.aload_n 0, 1) := by decide +kernel
theorem dX8_field_12 : decode cX8_field 12 = .ok (.getfield 134, 3) := by decide +kernel
theorem dX8_field_15 : decode cX8_field 15 = .ok (.invokevirtual 137, 3) := by decide +kernel
theorem dX8_field_18 : decode cX8_field 18 = .ok (.bipush 49, 2) := by decide +kernel
theorem dX8_field_20 : decode cX8_field 20 = .ok (.bipush 57, 2) := by decide +kernel
theorem dX8_field_22 : decode cX8_field 22 = .ok (.invokestatic 120, 3) := by decide +kernel
theorem dX8_field_25 : decode cX8_field 25 = .ok (.ifCond .eq 13, 3) := by decide +kernel
theorem dX8_field_28 : decode cX8_field 28 = .ok (.aload_n 0, 1) := by decide +kernel
theorem dX8_field_29 : decode cX8_field 29 = .ok (.dup, 1) := by decide +kernel
theorem dX8_field_30 : decode cX8_field 30 = .ok (.getfield 134, 3) := by decide +kernel
theorem dX8_field_33 : decode cX8_field 33 = .ok (.iconst 1, 1) := by decide +kernel
theorem dX8_field_34 : decode cX8_field 34 = .ok (.iadd, 1) := by decide +kernel
theorem dX8_field_35 : decode cX8_field 35 = .ok (.putfield 134, 3) := by decide +kernel
theorem dX8_field_38 : decode cX8_field 38 = .ok (.aload_n 0, 1) := by decide +kernel
theorem dX8_field_39 : decode cX8_field 39 = .ok (.aload_n 0, 1) := by decide +kernel
theorem dX8_field_40 : decode cX8_field 40 = .ok (.aload_n 0, 1) := by decide +kernel
theorem dX8_field_41 : decode cX8_field 41 = .ok (.getfield 134, 3) := by decide +kernel
theorem dX8_field_44 : decode cX8_field 44 = .ok (.invokevirtual 137, 3) := by decide +kernel
theorem dX8_field_47 : decode cX8_field 47 = .ok (.bipush 125, 2) := by decide +kernel
theorem dX8_field_49 : decode cX8_field 49 = .ok (.if_icmp .ne 7, 3) := by decide +kernel
theorem dX8_field_52 : decode cX8_field 52 = .ok (.iconst 1, 1) := by decide +kernel
theorem dX8_field_53 : decode cX8_field 53 = .ok (.goto 4, 3) := by decide +kernel
theorem dX8_field_56 : decode cX8_field 56 = .ok (.iconst 0, 1) := by decide +kernel
theorem dX8_field_57 : decode cX8_field 57 = .ok (.invokevirtual 160, 3) := by decide +kernel
theorem dX8_field_60 : decode cX8_field 60 = .ok (.aload_n 0, 1) := by decide +kernel
theorem dX8_field_61 : decode cX8_field 61 = .ok (.dup, 1) := by decide +kernel
theorem dX8_field_62 : decode cX8_field 62 = .ok (.getfield 134, 3) := by decide +kernel
theorem dX8_field_65 : decode cX8_field 65 = .ok (.iconst 1, 1) := by decide +kernel
theorem dX8_field_66 : decode cX8_field 66 = .ok (.iadd, 1) := by decide +kernel
theorem dX8_field_67 : decode cX8_field 67 = .ok (.putfield 134, 3) := by decide +kernel
theorem dX8_field_70 : decode cX8_field 70 = .ok (.aload_n 0, 1) := by decide +kernel
theorem dX8_field_71 : decode cX8_field 71 = .ok (.dup, 1) := by decide +kernel
theorem dX8_field_72 : decode cX8_field 72 = .ok (.getfield 154, 3) := by decide +kernel
theorem dX8_field_75 : decode cX8_field 75 = .ok (.iconst 1, 1) := by decide +kernel
theorem dX8_field_76 : decode cX8_field 76 = .ok (.iadd, 1) := by decide +kernel
theorem dX8_field_77 : decode cX8_field 77 = .ok (.putfield 154, 3) := by decide +kernel
theorem dX8_field_80 : decode cX8_field 80 = .ok (.return_, 1) := by decide +kernel
theorem dX8_brace_0 : decode cX8_brace 0 = .ok (.aload_n 0, 1) := by decide +kernel
theorem dX8_brace_1 : decode cX8_brace 1 = .ok (.getfield 134, 3) := by decide +kernel
theorem dX8_brace_4 : decode cX8_brace 4 = .ok (.istore_n 2, 1) := by decide +kernel
theorem dX8_brace_5 : decode cX8_brace 5 = .ok (.aload_n 0, 1) := by decide +kernel
theorem dX8_brace_6 : decode cX8_brace 6 = .ok (.dup, 1) := by decide +kernel
theorem dX8_brace_7 : decode cX8_brace 7 = .ok (.getfield 134, 3) := by decide +kernel
theorem dX8_brace_10 : decode cX8_brace 10 = .ok (.iconst 1, 1) := by decide +kernel
theorem dX8_brace_11 : decode cX8_brace 11 = .ok (.iadd, 1) := by decide +kernel
theorem dX8_brace_12 : decode cX8_brace 12 = .ok (.putfield 134, 3) := by decide +kernel
theorem dX8_brace_15 : decode cX8_brace 15 = .ok (.aload_n 0, 1) := by decide +kernel
theorem dX8_brace_16 : decode cX8_brace 16 = .ok (.aload_n 0, 1) := by decide +kernel
theorem dX8_brace_17 : decode cX8_brace 17 = .ok (.getfield 134, 3) := by decide +kernel
theorem dX8_brace_20 : decode cX8_brace 20 = .ok (.invokevirtual 137, 3) := by decide +kernel
theorem dX8_brace_23 : decode cX8_brace 23 = .ok (.istore_n 3, 1) := by decide +kernel
theorem dX8_brace_24 : decode cX8_brace 24 = .ok (.iload_n 3, 1) := by decide +kernel
theorem dX8_brace_25 : decode cX8_brace 25 = .ok (.bipush 42, 2) := by decide +kernel
theorem dX8_brace_27 : decode cX8_brace 27 = .ok (.if_icmp .ne 49, 3) := by decide +kernel
theorem dX8_brace_30 : decode cX8_brace 30 = .ok (.aload_n 0, 1) := by decide +kernel
theorem dX8_brace_31 : decode cX8_brace 31 = .ok (.getfield 127, 3) := by decide +kernel
theorem dX8_brace_34 : decode cX8_brace 34 = .ok (.iconst 5, 1) := by decide +kernel
theorem dX8_brace_35 : decode cX8_brace 35 = .ok (.if_icmp .ge 41, 3) := by decide +kernel
theorem dX8_brace_38 : decode cX8_brace 38 = .ok (.aload_n 0, 1) := by decide +kernel
theorem dX8_brace_39 : decode cX8_brace 39 = .ok (.invokevirtual 130, 3) := by decide +kernel
theorem dX8_brace_42 : decode cX8_brace 42 = .ok (.ifCond .ne 34, 3) := by decide +kernel
theorem dX8_brace_45 : decode cX8_brace 45 = .ok (.aload_n 0, 1) := by decide +kernel
theorem dX8_brace_46 : decode cX8_brace 46 = .ok (.dup, 1) := by decide +kernel
theorem dX8_brace_47 : decode cX8_brace 47 = .ok (.getfield 134, 3) := by decide +kernel
theorem dX8_brace_50 : decode cX8_brace 50 = .ok (.iconst 1, 1) := by decide +kernel
theorem dX8_brace_51 : decode cX8_brace 51 = .ok (.iadd, 1) := by decide +kernel
theorem dX8_brace_52 : decode cX8_brace 52 = .ok (.putfield 134, 3) := by decide +kernel
theorem dX8_brace_55 : decode cX8_brace 55 = .ok (.aload_n 0, 1) := by decide +kernel
theorem dX8_brace_56 : decode cX8_brace 56 = .ok (.iconst 1, 1) := by decide +kernel
theorem dX8_brace_57 : decode cX8_brace 57 = .ok (.iload_n 2, 1) := by decide +kernel
theorem dX8_brace_58 : decode cX8_brace 58 = .ok (.invokevirtual 164, 3) := by decide +kernel
theorem dX8_brace_61 : decode cX8_brace 61 = .ok (.aload_n 0, 1) := by decide +kernel
theorem dX8_brace_62 : decode cX8_brace 62 = .ok (.getfield 22, 3) := by decide +kernel
theorem dX8_brace_65 : decode cX8_brace 65 = .ok (.iload_n 1, 1) := by decide +kernel
theorem dX8_brace_66 : decode cX8_brace 66 = .ok (.iload_n 2, 1) := by decide +kernel
theorem dX8_brace_67 : decode cX8_brace 67 = .ok (.iadd, 1) := by decide +kernel
theorem dX8_brace_68 : decode cX8_brace 68 = .ok (.aload_n 0, 1) := by decide +kernel
theorem dX8_brace_69 : decode cX8_brace 69 = .ok (.getfield 134, 3) := by decide +kernel
theorem dX8_brace_72 : decode cX8_brace 72 = .ok (.iastore, 1) := by decide +kernel
theorem dX8_brace_73 : decode cX8_brace 73 = .ok (.goto 60, 3) := by decide +kernel
theorem dX8_brace_76 : decode cX8_brace 76 = .ok (.iload_n 3, 1) := by decide +kernel
theorem dX8_brace_77 : decode cX8_brace 77 = .ok (.bipush 63, 2) := by decide +kernel
theorem dX8_brace_79 : decode cX8_brace 79 = .ok (.if_icmp .ne 31, 3) := by decide +kernel
theorem dX8_brace_82 : decode cX8_brace 82 = .ok (.aload_n 0, 1) := by decide +kernel
theorem dX8_brace_83 : decode cX8_brace 83 = .ok (.getfield 127, 3) := by decide +kernel
theorem dX8_brace_86 : decode cX8_brace 86 = .ok (.iconst 5, 1) := by decide +kernel
theorem dX8_brace_87 : decode cX8_brace 87 = .ok (.if_icmp .ge 23, 3) := by decide +kernel
theorem dX8_brace_90 : decode cX8_brace 90 = .ok (.aload_n 0, 1) := by decide +kernel
theorem dX8_brace_91 : decode cX8_brace 91 = .ok (.iload_n 2, 1) := by decide +kernel
theorem dX8_brace_92 : decode cX8_brace 92 = .ok (.invokevirtual 168, 3) := by decide +kernel
theorem dX8_brace_95 : decode cX8_brace 95 = .ok (.aload_n 0, 1) := by decide +kernel
theorem dX8_brace_96 : decode cX8_brace 96 = .ok (.getfield 22, 3) := by decide +kernel
theorem dX8_brace_99 : decode cX8_brace 99 = .ok (.iload_n 1, 1) := by decide +kernel
theorem dX8_brace_100 : decode cX8_brace 100 = .ok (.iload_n 2, 1) := by decide +kernel
theorem dX8_brace_101 : decode cX8_brace 101 = .ok (.iadd, 1) := by decide +kernel
theorem dX8_brace_102 : decode cX8_brace 102 = .ok (.aload_n 0, 1) := by decide +kernel
theorem dX8_brace_103 : decode cX8_brace 103 = .ok (.getfield 134, 3) := by decide +kernel
theorem dX8_brace_106 : decode cX8_brace 106 = .ok (.iastore, 1) := by decide +kernel
theorem dX8_brace_107 : decode cX8_brace 107 = .ok (.goto 26, 3) := by decide +kernel
theorem dX8_brace_110 : decode cX8_brace 110 = .ok (.aload_n 0, 1) := by decide +kernel
theorem dX8_brace_111 : decode cX8_brace 111 = .ok (.iload_n 3, 1) := by decide +kernel
theorem dX8_brace_112 : decode cX8_brace 112 = .ok (.invokevirtual 145, 3) := by decide +kernel
theorem dX8_brace_115 : decode cX8_brace 115 = .ok (.ifCond .eq 10, 3) := by decide +kernel
theorem dX8_brace_118 : decode cX8_brace 118 = .ok (.aload_n 0, 1) := by decide +kernel
theorem dX8_brace_119 : decode cX8_brace 119 = .ok (.invokevirtual 172, 3) := by decide +kernel
theorem dX8_brace_122 : decode cX8_brace 122 = .ok (.goto 11, 3) := by decide +kernel
theorem dX8_brace_125 : decode cX8_brace 125 = .ok (.aload_n 0, 1) := by decide +kernel
theorem dX8_brace_126 : decode cX8_brace 126 = .ok (.aload_n 0, 1) := by decide +kernel
theorem dX8_brace_127 : decode cX8_brace 127 = .ok (.getfield 134, 3) := by decide +kernel
theorem dX8_brace_130 : decode cX8_brace 130 = .ok (.putfield 148, 3) := by decide +kernel
theorem dX8_brace_133 : decode cX8_brace 133 = .ok (.return_, 1) := by decide +kernel
theorem dX8_closes_0 : decode cX8_closes 0 = .ok (.aload_n 0, 1) := by decide +kernel
theorem dX8_closes_1 : decode cX8_closes 1 = .ok (.dup, 1) := by decide +kernel
theorem dX8_closes_2 : decode cX8_closes 2 = .ok (.getfield 127, 3) := by decide +kernel
theorem dX8_closes_5 : decode cX8_closes 5 = .ok (.iconst 1, 1) := by decide +kernel
theorem dX8_closes_6 : decode cX8_closes 6 = .ok (.isub, 1) := by decide +kernel
theorem dX8_closes_7 : decode cX8_closes 7 = .ok (.putfield 127, 3) := by decide +kernel
theorem dX8_closes_10 : decode cX8_closes 10 = .ok (.aload_n 0, 1) := by decide +kernel
theorem dX8_closes_11 : decode cX8_closes 11 = .ok (.getfield 19, 3) := by decide +kernel
theorem dX8_closes_14 : decode cX8_closes 14 = .ok (.iload_n 1, 1) := by decide +kernel
theorem dX8_closes_15 : decode cX8_closes 15 = .ok (.aload_n 0, 1) := by decide +kernel
theorem dX8_closes_16 : decode cX8_closes 16 = .ok (.getfield 134, 3) := by decide +kernel
theorem dX8_closes_19 : decode cX8_closes 19 = .ok (.iadd, 1) := by decide +kernel
theorem dX8_closes_20 : decode cX8_closes 20 = .ok (.iconst 3, 1) := by decide +kernel
theorem dX8_closes_21 : decode cX8_closes 21 = .ok (.iastore, 1) := by decide +kernel
theorem dX8_closes_22 : decode cX8_closes 22 = .ok (.aload_n 0, 1) := by decide +kernel
theorem dX8_closes_23 : decode cX8_closes 23 = .ok (.getfield 35, 3) := by decide +kernel
theorem dX8_closes_26 : decode cX8_closes 26 = .ok (.aload_n 0, 1) := by decide +kernel
theorem dX8_closes_27 : decode cX8_closes 27 = .ok (.getfield 127, 3) := by decide +kernel
theorem dX8_closes_30 : decode cX8_closes 30 = .ok (.iaload, 1) := by decide +kernel
theorem dX8_closes_31 : decode cX8_closes 31 = .ok (.istore_n 2, 1) := by decide +kernel
theorem dX8_closes_32 : decode cX8_closes 32 = .ok (.aload_n 0, 1) := by decide +kernel
theorem dX8_closes_33 : decode cX8_closes 33 = .ok (.getfield 25, 3) := by decide +kernel
theorem dX8_closes_36 : decode cX8_closes 36 = .ok (.iload_n 1, 1) := by decide +kernel
theorem dX8_closes_37 : decode cX8_closes 37 = .ok (.aload_n 0, 1) := by decide +kernel
theorem dX8_closes_38 : decode cX8_closes 38 = .ok (.getfield 32, 3) := by decide +kernel
theorem dX8_closes_41 : decode cX8_closes 41 = .ok (.aload_n 0, 1) := by decide +kernel
