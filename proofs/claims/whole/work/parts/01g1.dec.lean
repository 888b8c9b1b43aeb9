theorem dX8_closes_42 : decode cX8_closes 42 = .ok (.getfield 127, 3) := by decide +kernel
theorem dX8_closes_45 : decode cX8_closes 45 = .ok (.iaload, 1) := by decide +kernel
theorem dX8_closes_46 : decode cX8_closes 46 = .ok (.iadd, 1) := by decide +kernel
theorem dX8_closes_47 : decode cX8_closes 47 = .ok (.iload_n 2, 1) := by decide +kernel
theorem dX8_closes_48 : decode cX8_closes 48 = .ok (.iconst (-1), 1) := by decide +kernel
theorem dX8_closes_49 : decode cX8_closes 49 = .ok (.if_icmp .ne 12, 3) := by decide +kernel
theorem dX8_closes_52 : decode cX8_closes 52 = .ok (.aload_n 0, 1) := by decide +kernel
theorem dX8_closes_53 : decode cX8_closes 53 = .ok (.getfield 134, 3) := by decide +kernel
theorem dX8_closes_56 : decode cX8_closes 56 = .ok (.iconst 1, 1) := by decide +kernel
theorem dX8_closes_57 : decode cX8_closes 57 = .ok (.iadd, 1) := by decide +kernel
theorem dX8_closes_58 : decode cX8_closes 58 = .ok (.goto 6, 3) := by decide +kernel
theorem dX8_closes_61 : decode cX8_closes 61 = .ok (.iload_n 2, 1) := by decide +kernel
theorem dX8_closes_62 : decode cX8_closes 62 = .ok (.iconst 1, 1) := by decide +kernel
theorem dX8_closes_63 : decode cX8_closes 63 = .ok (.iadd, 1) := by decide +kernel
theorem dX8_closes_64 : decode cX8_closes 64 = .ok (.iastore, 1) := by decide +kernel
theorem dX8_closes_65 : decode cX8_closes 65 = .ok (.iload_n 2, 1) := by decide +kernel
theorem dX8_closes_66 : decode cX8_closes 66 = .ok (.iconst (-1), 1) := by decide +kernel
theorem dX8_closes_67 : decode cX8_closes 67 = .ok (.if_icmp .eq 17, 3) := by decide +kernel
theorem dX8_closes_70 : decode cX8_closes 70 = .ok (.aload_n 0, 1) := by decide +kernel
theorem dX8_closes_71 : decode cX8_closes 71 = .ok (.getfield 25, 3) := by decide +kernel
theorem dX8_closes_74 : decode cX8_closes 74 = .ok (.iload_n 1, 1) := by decide +kernel
theorem dX8_closes_75 : decode cX8_closes 75 = .ok (.iload_n 2, 1) := by decide +kernel
theorem dX8_closes_76 : decode cX8_closes 76 = .ok (.iadd, 1) := by decide +kernel
theorem dX8_closes_77 : decode cX8_closes 77 = .ok (.aload_n 0, 1) := by decide +kernel
theorem dX8_closes_78 : decode cX8_closes 78 = .ok (.getfield 134, 3) := by decide +kernel
theorem dX8_closes_81 : decode cX8_closes 81 = .ok (.iconst 1, 1) := by decide +kernel
theorem dX8_closes_82 : decode cX8_closes 82 = .ok (.iadd, 1) := by decide +kernel
theorem dX8_closes_83 : decode cX8_closes 83 = .ok (.iastore, 1) := by decide +kernel
theorem dX8_closes_84 : decode cX8_closes 84 = .ok (.aload_n 0, 1) := by decide +kernel
theorem dX8_closes_85 : decode cX8_closes 85 = .ok (.dup, 1) := by decide +kernel
theorem dX8_closes_86 : decode cX8_closes 86 = .ok (.getfield 134, 3) := by decide +kernel
theorem dX8_closes_89 : decode cX8_closes 89 = .ok (.iconst 1, 1) := by decide +kernel
theorem dX8_closes_90 : decode cX8_closes 90 = .ok (.iadd, 1) := by decide +kernel
theorem dX8_closes_91 : decode cX8_closes 91 = .ok (.putfield 134, 3) := by decide +kernel
theorem dX8_closes_94 : decode cX8_closes 94 = .ok (.return_, 1) := by decide +kernel
theorem dX8_reads_0 : decode cX8_reads 0 = .ok (.aload_n 0, 1) := by decide +kernel
theorem dX8_reads_1 : decode cX8_reads 1 = .ok (.iconst 0, 1) := by decide +kernel
theorem dX8_reads_2 : decode cX8_reads 2 = .ok (.putfield 134, 3) := by decide +kernel
theorem dX8_reads_5 : decode cX8_reads 5 = .ok (.aload_n 0, 1) := by decide +kernel
theorem dX8_reads_6 : decode cX8_reads 6 = .ok (.iconst (-1), 1) := by decide +kernel
theorem dX8_reads_7 : decode cX8_reads 7 = .ok (.putfield 148, 3) := by decide +kernel
theorem dX8_reads_10 : decode cX8_reads 10 = .ok (.aload_n 0, 1) := by decide +kernel
theorem dX8_reads_11 : decode cX8_reads 11 = .ok (.iconst 0, 1) := by decide +kernel
theorem dX8_reads_12 : decode cX8_reads 12 = .ok (.putfield 127, 3) := by decide +kernel
theorem dX8_reads_15 : decode cX8_reads 15 = .ok (.aload_n 0, 1) := by decide +kernel
theorem dX8_reads_16 : decode cX8_reads 16 = .ok (.iconst 0, 1) := by decide +kernel
theorem dX8_reads_17 : decode cX8_reads 17 = .ok (.putfield 154, 3) := by decide +kernel
theorem dX8_reads_20 : decode cX8_reads 20 = .ok (.aload_n 0, 1) := by decide +kernel
theorem dX8_reads_21 : decode cX8_reads 21 = .ok (.getfield 134, 3) := by decide +kernel
theorem dX8_reads_24 : decode cX8_reads 24 = .ok (.aload_n 0, 1) := by decide +kernel
theorem dX8_reads_25 : decode cX8_reads 25 = .ok (.getfield 124, 3) := by decide +kernel
theorem dX8_reads_28 : decode cX8_reads 28 = .ok (.if_icmp .ge 282, 3) := by decide +kernel
theorem dX8_reads_31 : decode cX8_reads 31 = .ok (.aload_n 0, 1) := by decide +kernel
theorem dX8_reads_32 : decode cX8_reads 32 = .ok (.getfield 148, 3) := by decide +kernel
theorem dX8_reads_35 : decode cX8_reads 35 = .ok (.iconst (-1), 1) := by decide +kernel
theorem dX8_reads_36 : decode cX8_reads 36 = .ok (.if_icmp .ne 274, 3) := by decide +kernel
theorem dX8_reads_39 : decode cX8_reads 39 = .ok (.aload_n 0, 1) := by decide +kernel
theorem dX8_reads_40 : decode cX8_reads 40 = .ok (.getfield 7, 3) := by decide +kernel
theorem dX8_reads_43 : decode cX8_reads 43 = .ok (.aload_n 0, 1) := by decide +kernel
theorem dX8_reads_44 : decode cX8_reads 44 = .ok (.getfield 134, 3) := by decide +kernel
theorem dX8_reads_47 : decode cX8_reads 47 = .ok (.iaload, 1) := by decide +kernel
theorem dX8_reads_48 : decode cX8_reads 48 = .ok (.istore_n 2, 1) := by decide +kernel
theorem dX8_reads_49 : decode cX8_reads 49 = .ok (.aload_n 0, 1) := by decide +kernel
theorem dX8_reads_50 : decode cX8_reads 50 = .ok (.getfield 127, 3) := by decide +kernel
theorem dX8_reads_53 : decode cX8_reads 53 = .ok (.ifCond .le 21, 3) := by decide +kernel
theorem dX8_reads_56 : decode cX8_reads 56 = .ok (.aload_n 0, 1) := by decide +kernel
theorem dX8_reads_57 : decode cX8_reads 57 = .ok (.getfield 28, 3) := by decide +kernel
theorem dX8_reads_60 : decode cX8_reads 60 = .ok (.aload_n 0, 1) := by decide +kernel
theorem dX8_reads_61 : decode cX8_reads 61 = .ok (.getfield 127, 3) := by decide +kernel
theorem dX8_reads_64 : decode cX8_reads 64 = .ok (.iconst 1, 1) := by decide +kernel
theorem dX8_reads_65 : decode cX8_reads 65 = .ok (.isub, 1) := by decide +kernel
theorem dX8_reads_66 : decode cX8_reads 66 = .ok (.baload, 1) := by decide +kernel
theorem dX8_reads_67 : decode cX8_reads 67 = .ok (.ifCond .ne 7, 3) := by decide +kernel
theorem dX8_reads_70 : decode cX8_reads 70 = .ok (.iconst 1, 1) := by decide +kernel
theorem dX8_reads_71 : decode cX8_reads 71 = .ok (.goto 4, 3) := by decide +kernel
theorem dX8_reads_74 : decode cX8_reads 74 = .ok (.iconst 0, 1) := by decide +kernel
theorem dX8_reads_75 : decode cX8_reads 75 = .ok (.istore_n 3, 1) := by decide +kernel
theorem dX8_reads_76 : decode cX8_reads 76 = .ok (.aload_n 0, 1) := by decide +kernel
theorem dX8_reads_77 : decode cX8_reads 77 = .ok (.getfield 127, 3) := by decide +kernel
theorem dX8_reads_80 : decode cX8_reads 80 = .ok (.ifCond .le 21, 3) := by decide +kernel
theorem dX8_reads_83 : decode cX8_reads 83 = .ok (.aload_n 0, 1) := by decide +kernel
theorem dX8_reads_84 : decode cX8_reads 84 = .ok (.getfield 28, 3) := by decide +kernel
theorem dX8_reads_87 : decode cX8_reads 87 = .ok (.aload_n 0, 1) := by decide +kernel
theorem dX8_reads_88 : decode cX8_reads 88 = .ok (.getfield 127, 3) := by decide +kernel
theorem dX8_reads_91 : decode cX8_reads 91 = .ok (.iconst 1, 1) := by decide +kernel
theorem dX8_reads_92 : decode cX8_reads 92 = .ok (.isub, 1) := by decide +kernel
theorem dX8_reads_93 : decode cX8_reads 93 = .ok (.baload, 1) := by decide +kernel
theorem dX8_reads_94 : decode cX8_reads 94 = .ok (.ifCond .eq 7, 3) := by decide +kernel
theorem dX8_reads_97 : decode cX8_reads 97 = .ok (.iconst 1, 1) := by decide +kernel
theorem dX8_reads_98 : decode cX8_reads 98 = .ok (.goto 4, 3) := by decide +kernel
theorem dX8_reads_101 : decode cX8_reads 101 = .ok (.iconst 0, 1) := by decide +kernel
theorem dX8_reads_102 : decode cX8_reads 102 = .ok (.istore 4, 2) := by decide +kernel
theorem dX8_reads_104 : decode cX8_reads 104 = .ok (.aload_n 0, 1) := by decide +kernel
theorem dX8_reads_105 : decode cX8_reads 105 = .ok (.getfield 19, 3) := by decide +kernel
theorem dX8_reads_108 : decode cX8_reads 108 = .ok (.iload_n 1, 1) := by decide +kernel
theorem dX8_reads_109 : decode cX8_reads 109 = .ok (.aload_n 0, 1) := by decide +kernel
theorem dX8_reads_110 : decode cX8_reads 110 = .ok (.getfield 134, 3) := by decide +kernel
theorem dX8_reads_113 : decode cX8_reads 113 = .ok (.iadd, 1) := by decide +kernel
theorem dX8_reads_114 : decode cX8_reads 114 = .ok (.iconst 0, 1) := by decide +kernel
theorem dX8_reads_115 : decode cX8_reads 115 = .ok (.iastore, 1) := by decide +kernel
theorem dX8_reads_116 : decode cX8_reads 116 = .ok (.iload_n 2, 1) := by decide +kernel
theorem dX8_reads_117 : decode cX8_reads 117 = .ok (.bipush 123, 2) := by decide +kernel
theorem dX8_reads_119 : decode cX8_reads 119 = .ok (.if_icmp .ne 11, 3) := by decide +kernel
theorem dX8_reads_122 : decode cX8_reads 122 = .ok (.aload_n 0, 1) := by decide +kernel
theorem dX8_reads_123 : decode cX8_reads 123 = .ok (.iload_n 1, 1) := by decide +kernel
theorem dX8_reads_124 : decode cX8_reads 124 = .ok (.invokevirtual 175, 3) := by decide +kernel
theorem dX8_reads_127 : decode cX8_reads 127 = .ok (.goto 180, 3) := by decide +kernel
theorem dX8_reads_130 : decode cX8_reads 130 = .ok (.iload_n 2, 1) := by decide +kernel
theorem dX8_reads_131 : decode cX8_reads 131 = .ok (.bipush 125, 2) := by decide +kernel
theorem dX8_reads_133 : decode cX8_reads 133 = .ok (.if_icmp .ne 15, 3) := by decide +kernel
theorem dX8_reads_136 : decode cX8_reads 136 = .ok (.iload_n 3, 1) := by decide +kernel
theorem dX8_reads_137 : decode cX8_reads 137 = .ok (.ifCond .eq 11, 3) := by decide +kernel
theorem dX8_reads_140 : decode cX8_reads 140 = .ok (.aload_n 0, 1) := by decide +kernel
theorem dX8_reads_141 : decode cX8_reads 141 = .ok (.iload_n 1, 1) := by decide +kernel
theorem dX8_reads_142 : decode cX8_reads 142 = .ok (.invokevirtual 178, 3) := by decide +kernel
theorem dX8_reads_145 : decode cX8_reads 145 = .ok (.goto 162, 3) := by decide +kernel
theorem dX8_reads_148 : decode cX8_reads 148 = .ok (.iload_n 2, 1) := by decide +kernel
theorem dX8_reads_149 : decode cX8_reads 149 = .ok (.bipush 124, 2) := by decide +kernel
theorem dX8_reads_151 : decode cX8_reads 151 = .ok (.if_icmp .ne 62, 3) := by decide +kernel
theorem dX8_reads_154 : decode cX8_reads 154 = .ok (.iload_n 3, 1) := by decide +kernel
theorem dX8_reads_155 : decode cX8_reads 155 = .ok (.ifCond .eq 58, 3) := by decide +kernel
theorem dX8_reads_158 : decode cX8_reads 158 = .ok (.aload_n 0, 1) := by decide +kernel
theorem dX8_reads_159 : decode cX8_reads 159 = .ok (.getfield 35, 3) := by decide +kernel
theorem dX8_reads_162 : decode cX8_reads 162 = .ok (.aload_n 0, 1) := by decide +kernel
theorem dX8_reads_163 : decode cX8_reads 163 = .ok (.getfield 127, 3) := by decide +kernel
theorem dX8_reads_166 : decode cX8_reads 166 = .ok (.iconst 1, 1) := by decide +kernel
theorem dX8_reads_167 : decode cX8_reads 167 = .ok (.isub, 1) := by decide +kernel
theorem dX8_reads_168 : decode cX8_reads 168 = .ok (.iaload, 1) := by decide +kernel
theorem dX8_reads_169 : decode cX8_reads 169 = .ok (.iconst (-1), 1) := by decide +kernel
theorem dX8_reads_170 : decode cX8_reads 170 = .ok (.if_icmp .ne 43, 3) := by decide +kernel
theorem dX8_reads_173 : decode cX8_reads 173 = .ok (.aload_n 0, 1) := by decide +kernel
theorem dX8_reads_174 : decode cX8_reads 174 = .ok (.getfield 19, 3) := by decide +kernel
theorem dX8_reads_177 : decode cX8_reads 177 = .ok (.iload_n 1, 1) := by decide +kernel
theorem dX8_reads_178 : decode cX8_reads 178 = .ok (.aload_n 0, 1) := by decide +kernel
theorem dX8_reads_179 : decode cX8_reads 179 = .ok (.getfield 134, 3) := by decide +kernel
theorem dX8_reads_182 : decode cX8_reads 182 = .ok (.iadd, 1) := by decide +kernel
theorem dX8_reads_183 : decode cX8_reads 183 = .ok (.iconst 2, 1) := by decide +kernel
theorem dX8_reads_184 : decode cX8_reads 184 = .ok (.iastore, 1) := by decide +kernel
theorem dX8_reads_185 : decode cX8_reads 185 = .ok (.aload_n 0, 1) := by decide +kernel
theorem dX8_reads_186 : decode cX8_reads 186 = .ok (.getfield 35, 3) := by decide +kernel
theorem dX8_reads_189 : decode cX8_reads 189 = .ok (.aload_n 0, 1) := by decide +kernel
theorem dX8_reads_190 : decode cX8_reads 190 = .ok (.getfield 127, 3) := by decide +kernel
theorem dX8_reads_193 : decode cX8_reads 193 = .ok (.iconst 1, 1) := by decide +kernel
theorem dX8_reads_194 : decode cX8_reads 194 = .ok (.isub, 1) := by decide +kernel
theorem dX8_reads_195 : decode cX8_reads 195 = .ok (.aload_n 0, 1) := by decide +kernel
theorem dX8_reads_196 : decode cX8_reads 196 = .ok (.getfield 134, 3) := by decide +kernel
theorem dX8_reads_199 : decode cX8_reads 199 = .ok (.iastore, 1) := by decide +kernel
theorem dX8_reads_200 : decode cX8_reads 200 = .ok (.aload_n 0, 1) := by decide +kernel
theorem dX8_reads_201 : decode cX8_reads 201 = .ok (.dup, 1) := by decide +kernel
theorem dX8_reads_202 : decode cX8_reads 202 = .ok (.getfield 134, 3) := by decide +kernel
theorem dX8_reads_205 : decode cX8_reads 205 = .ok (.iconst 1, 1) := by decide +kernel
theorem dX8_reads_206 : decode cX8_reads 206 = .ok (.iadd, 1) := by decide +kernel
theorem dX8_reads_207 : decode cX8_reads 207 = .ok (.putfield 134, 3) := by decide +kernel
theorem dX8_reads_210 : decode cX8_reads 210 = .ok (.goto 97, 3) := by decide +kernel
theorem dX8_reads_213 : decode cX8_reads 213 = .ok (.iload_n 2, 1) := by decide +kernel
theorem dX8_reads_214 : decode cX8_reads 214 = .ok (.bipush 125, 2) := by decide +kernel
theorem dX8_reads_216 : decode cX8_reads 216 = .ok (.if_icmp .eq 9, 3) := by decide +kernel
theorem dX8_reads_219 : decode cX8_reads 219 = .ok (.iload_n 2, 1) := by decide +kernel
theorem dX8_reads_220 : decode cX8_reads 220 = .ok (.bipush 124, 2) := by decide +kernel
theorem dX8_reads_222 : decode cX8_reads 222 = .ok (.if_icmp .ne 14, 3) := by decide +kernel
theorem dX8_reads_225 : decode cX8_reads 225 = .ok (.aload_n 0, 1) := by decide +kernel
theorem dX8_reads_226 : decode cX8_reads 226 = .ok (.aload_n 0, 1) := by decide +kernel
theorem dX8_reads_227 : decode cX8_reads 227 = .ok (.getfield 134, 3) := by decide +kernel
theorem dX8_reads_230 : decode cX8_reads 230 = .ok (.putfield 148, 3) := by decide +kernel
theorem dX8_reads_233 : decode cX8_reads 233 = .ok (.goto 74, 3) := by decide +kernel
theorem dX8_reads_236 : decode cX8_reads 236 = .ok (.iload_n 2, 1) := by decide +kernel
theorem dX8_reads_237 : decode cX8_reads 237 = .ok (.bipush 42, 2) := by decide +kernel
theorem dX8_reads_239 : decode cX8_reads 239 = .ok (.if_icmp .ne 58, 3) := by decide +kernel
theorem dX8_reads_242 : decode cX8_reads 242 = .ok (.iload 4, 2) := by decide +kernel
theorem dX8_reads_244 : decode cX8_reads 244 = .ok (.ifCond .eq 53, 3) := by decide +kernel
theorem dX8_reads_247 : decode cX8_reads 247 = .ok (.aload_n 0, 1) := by decide +kernel
theorem dX8_reads_248 : decode cX8_reads 248 = .ok (.aload_n 0, 1) := by decide +kernel
theorem dX8_reads_249 : decode cX8_reads 249 = .ok (.getfield 134, 3) := by decide +kernel
theorem dX8_reads_252 : decode cX8_reads 252 = .ok (.iconst 1, 1) := by decide +kernel
theorem dX8_reads_253 : decode cX8_reads 253 = .ok (.iadd, 1) := by decide +kernel
theorem dX8_reads_254 : decode cX8_reads 254 = .ok (.invokevirtual 137, 3) := by decide +kernel
theorem dX8_reads_257 : decode cX8_reads 257 = .ok (.bipush 125, 2) := by decide +kernel
theorem dX8_reads_259 : decode cX8_reads 259 = .ok (.if_icmp .ne 38, 3) := by decide +kernel
theorem dX8_reads_262 : decode cX8_reads 262 = .ok (.aload_n 0, 1) := by decide +kernel
theorem dX8_reads_263 : decode cX8_reads 263 = .ok (.getfield 19, 3) := by decide +kernel
theorem dX8_reads_266 : decode cX8_reads 266 = .ok (.iload_n 1, 1) := by decide +kernel
theorem dX8_reads_267 : decode cX8_reads 267 = .ok (.aload_n 0, 1) := by decide +kernel
theorem dX8_reads_268 : decode cX8_reads 268 = .ok (.getfield 134, 3) := by decide +kernel
theorem dX8_reads_271 : decode cX8_reads 271 = .ok (.iadd, 1) := by decide +kernel
theorem dX8_reads_272 : decode cX8_reads 272 = .ok (.iconst 1, 1) := by decide +kernel
theorem dX8_reads_273 : decode cX8_reads 273 = .ok (.iastore, 1) := by decide +kernel
theorem dX8_reads_274 : decode cX8_reads 274 = .ok (.aload_n 0, 1) := by decide +kernel
theorem dX8_reads_275 : decode cX8_reads 275 = .ok (.dup, 1) := by decide +kernel
theorem dX8_reads_276 : decode cX8_reads 276 = .ok (.getfield 127, 3) := by decide +kernel
theorem dX8_reads_279 : decode cX8_reads 279 = .ok (.iconst 1, 1) := by decide +kernel
theorem dX8_reads_280 : decode cX8_reads 280 = .ok (.isub, 1) := by decide +kernel
theorem dX8_reads_281 : decode cX8_reads 281 = .ok (.putfield 127, 3) := by decide +kernel
theorem dX8_reads_284 : decode cX8_reads 284 = .ok (.aload_n 0, 1) := by decide +kernel
theorem dX8_reads_285 : decode cX8_reads 285 = .ok (.dup, 1) := by decide +kernel
theorem dX8_reads_286 : decode cX8_reads 286 = .ok (.getfield 134, 3) := by decide +kernel
theorem dX8_reads_289 : decode cX8_reads 289 = .ok (.iconst 2, 1) := by decide +kernel
theorem dX8_reads_290 : decode cX8_reads 290 = .ok (.iadd, 1) := by decide +kernel
theorem dX8_reads_291 : decode cX8_reads 291 = .ok (.putfield 134, 3) := by decide +kernel
theorem dX8_reads_294 : decode cX8_reads 294 = .ok (.goto 13, 3) := by decide +kernel
theorem dX8_reads_297 : decode cX8_reads 297 = .ok (.aload_n 0, 1) := by decide +kernel
theorem dX8_reads_298 : decode cX8_reads 298 = .ok (.dup, 1) := by decide +kernel
theorem dX8_reads_299 : decode cX8_reads 299 = .ok (.getfield 134, 3) := by decide +kernel
theorem dX8_reads_302 : decode cX8_reads 302 = .ok (.iconst 1, 1) := by decide +kernel
theorem dX8_reads_303 : decode cX8_reads 303 = .ok (.iadd, 1) := by decide +kernel
theorem dX8_reads_304 : decode cX8_reads 304 = .ok (.putfield 134, 3) := by decide +kernel
theorem dX8_reads_307 : decode cX8_reads 307 = .ok (.goto (-287), 3) := by decide +kernel
theorem dX8_reads_310 : decode cX8_reads 310 = .ok (.aload_n 0, 1) := by decide +kernel
theorem dX8_reads_311 : decode cX8_reads 311 = .ok (.aload_n 0, 1) := by decide +kernel
theorem dX8_reads_312 : decode cX8_reads 312 = .ok (.getfield 127, 3) := by decide +kernel
theorem dX8_reads_315 : decode cX8_reads 315 = .ok (.ifCond .ne 7, 3) := by decide +kernel
theorem dX8_reads_318 : decode cX8_reads 318 = .ok (.iconst 1, 1) := by decide +kernel
theorem dX8_reads_319 : decode cX8_reads 319 = .ok (.goto 4, 3) := by decide +kernel
theorem dX8_reads_322 : decode cX8_reads 322 = .ok (.iconst 0, 1) := by decide +kernel
theorem dX8_reads_323 : decode cX8_reads 323 = .ok (.invokevirtual 160, 3) := by decide +kernel
theorem dX8_reads_326 : decode cX8_reads 326 = .ok (.return_, 1) := by decide +kernel
theorem dX8_template_0 : decode cX8_template 0 = .ok (.aload_n 0, 1) := by decide +kernel
theorem dX8_template_1 : decode cX8_template 1 = .ok (.iload_n 1, 1) := by decide +kernel
theorem dX8_template_2 : decode cX8_template 2 = .ok (.iconst 0, 1) := by decide +kernel
theorem dX8_template_3 : decode cX8_template 3 = .ok (.aload_n 0, 1) := by decide +kernel
theorem dX8_template_4 : decode cX8_template 4 = .ok (.getfield 181, 3) := by decide +kernel
theorem dX8_template_7 : decode cX8_template 7 = .ok (.invokestatic 120, 3) := by decide +kernel
theorem dX8_template_10 : decode cX8_template 10 = .ok (.ifCond .ne 7, 3) := by decide +kernel
theorem dX8_template_13 : decode cX8_template 13 = .ok (.iconst 1, 1) := by decide +kernel
theorem dX8_template_14 : decode cX8_template 14 = .ok (.goto 14, 3) := by decide +kernel
theorem dX8_template_17 : decode cX8_template 17 = .ok (.iload_n 1, 1) := by decide +kernel
theorem dX8_template_18 : decode cX8_template 18 = .ok (.bipush 6, 2) := by decide +kernel
theorem dX8_template_20 : decode cX8_template 20 = .ok (.if_icmp .ne 7, 3) := by decide +kernel
theorem dX8_template_23 : decode cX8_template 23 = .ok (.iconst 2, 1) := by decide +kernel
theorem dX8_template_24 : decode cX8_template 24 = .ok (.goto 4, 3) := by decide +kernel
theorem dX8_template_27 : decode cX8_template 27 = .ok (.iconst 0, 1) := by decide +kernel
theorem dX8_template_28 : decode cX8_template 28 = .ok (.putfield 110, 3) := by decide +kernel
theorem dX8_template_31 : decode cX8_template 31 = .ok (.aload_n 0, 1) := by decide +kernel
theorem dX8_template_32 : decode cX8_template 32 = .ok (.getfield 110, 3) := by decide +kernel
theorem dX8_template_35 : decode cX8_template 35 = .ok (.ifCond .le 5, 3) := by decide +kernel
theorem dX8_template_38 : decode cX8_template 38 = .ok (.iconst 0, 1) := by decide +kernel
theorem dX8_template_39 : decode cX8_template 39 = .ok (.ireturn, 1) := by decide +kernel
theorem dX8_template_40 : decode cX8_template 40 = .ok (.aload_n 0, 1) := by decide +kernel
theorem dX8_template_41 : decode cX8_template 41 = .ok (.sipush 960, 3) := by decide +kernel
theorem dX8_template_44 : decode cX8_template 44 = .ok (.invokevirtual 184, 3) := by decide +kernel
theorem dX8_template_47 : decode cX8_template 47 = .ok (.aload_n 0, 1) := by decide +kernel
theorem dX8_template_48 : decode cX8_template 48 = .ok (.getfield 148, 3) := by decide +kernel
theorem dX8_template_51 : decode cX8_template 51 = .ok (.iconst (-1), 1) := by decide +kernel
theorem dX8_template_52 : decode cX8_template 52 = .ok (.if_icmp .eq 15, 3) := by decide +kernel
theorem dX8_template_55 : decode cX8_template 55 = .ok (.aload_n 0, 1) := by decide +kernel
theorem dX8_template_56 : decode cX8_template 56 = .ok (.iconst 0, 1) := by decide +kernel
theorem dX8_template_57 : decode cX8_template 57 = .ok (.putfield 124, 3) := by decide +kernel
theorem dX8_template_60 : decode cX8_template 60 = .ok (.iconst (-1), 1) := by decide +kernel
theorem dX8_template_61 : decode cX8_template 61 = .ok (.aload_n 0, 1) := by decide +kernel
theorem dX8_template_62 : decode cX8_template 62 = .ok (.getfield 148, 3) := by decide +kernel
theorem dX8_template_65 : decode cX8_template 65 = .ok (.isub, 1) := by decide +kernel
theorem dX8_template_66 : decode cX8_template 66 = .ok (.ireturn, 1) := by decide +kernel
theorem dX8_template_67 : decode cX8_template 67 = .ok (.sipush 160, 3) := by decide +kernel
theorem dX8_template_70 : decode cX8_template 70 = .ok (.iload_n 1, 1) := by decide +kernel
theorem dX8_template_71 : decode cX8_template 71 = .ok (.imul, 1) := by decide +kernel
theorem dX8_template_72 : decode cX8_template 72 = .ok (.istore_n 2, 1) := by decide +kernel
theorem dX8_template_73 : decode cX8_template 73 = .ok (.aload_n 0, 1) := by decide +kernel
theorem dX8_template_74 : decode cX8_template 74 = .ok (.iload_n 2, 1) := by decide +kernel
theorem dX8_template_75 : decode cX8_template 75 = .ok (.invokevirtual 184, 3) := by decide +kernel
theorem dX8_template_78 : decode cX8_template 78 = .ok (.iconst 0, 1) := by decide +kernel
theorem dX8_template_79 : decode cX8_template 79 = .ok (.istore_n 3, 1) := by decide +kernel
theorem dX8_template_80 : decode cX8_template 80 = .ok (.iload_n 3, 1) := by decide +kernel
theorem dX8_template_81 : decode cX8_template 81 = .ok (.aload_n 0, 1) := by decide +kernel
theorem dX8_template_82 : decode cX8_template 82 = .ok (.getfield 124, 3) := by decide +kernel
theorem dX8_template_85 : decode cX8_template 85 = .ok (.if_icmp .ge 23, 3) := by decide +kernel
theorem dX8_template_88 : decode cX8_template 88 = .ok (.aload_n 0, 1) := by decide +kernel
theorem dX8_template_89 : decode cX8_template 89 = .ok (.getfield 16, 3) := by decide +kernel
theorem dX8_template_92 : decode cX8_template 92 = .ok (.iload_n 2, 1) := by decide +kernel
theorem dX8_template_93 : decode cX8_template 93 = .ok (.iload_n 3, 1) := by decide +kernel
theorem dX8_template_94 : decode cX8_template 94 = .ok (.iadd, 1) := by decide +kernel
theorem dX8_template_95 : decode cX8_template 95 = .ok (.aload_n 0, 1) := by decide +kernel
theorem dX8_template_96 : decode cX8_template 96 = .ok (.getfield 7, 3) := by decide +kernel
theorem dX8_template_99 : decode cX8_template 99 = .ok (.iload_n 3, 1) := by decide +kernel
theorem dX8_template_100 : decode cX8_template 100 = .ok (.iaload, 1) := by decide +kernel
theorem dX8_template_101 : decode cX8_template 101 = .ok (.iastore, 1) := by decide +kernel
theorem dX8_template_102 : decode cX8_template 102 = .ok (.iinc 3 1, 3) := by decide +kernel
theorem dX8_template_105 : decode cX8_template 105 = .ok (.goto (-25), 3) := by decide +kernel
theorem dX8_template_108 : decode cX8_template 108 = .ok (.aload_n 0, 1) := by decide +kernel
theorem dX8_template_109 : decode cX8_template 109 = .ok (.getfield 13, 3) := by decide +kernel
theorem dX8_template_112 : decode cX8_template 112 = .ok (.iload_n 1, 1) := by decide +kernel
theorem dX8_template_113 : decode cX8_template 113 = .ok (.aload_n 0, 1) := by decide +kernel
theorem dX8_template_114 : decode cX8_template 114 = .ok (.getfield 124, 3) := by decide +kernel
theorem dX8_template_117 : decode cX8_template 117 = .ok (.iastore, 1) := by decide +kernel
theorem dX8_template_118 : decode cX8_template 118 = .ok (.aload_n 0, 1) := by decide +kernel
theorem dX8_template_119 : decode cX8_template 119 = .ok (.dup, 1) := by decide +kernel
theorem dX8_template_120 : decode cX8_template 120 = .ok (.getfield 181, 3) := by decide +kernel
theorem dX8_template_123 : decode cX8_template 123 = .ok (.iload_n 1, 1) := by decide +kernel
theorem dX8_template_124 : decode cX8_template 124 = .ok (.aload_n 0, 1) := by decide +kernel
theorem dX8_template_125 : decode cX8_template 125 = .ok (.getfield 181, 3) := by decide +kernel
theorem dX8_template_128 : decode cX8_template 128 = .ok (.if_icmp .ne 7, 3) := by decide +kernel
theorem dX8_template_131 : decode cX8_template 131 = .ok (.iconst 1, 1) := by decide +kernel
theorem dX8_template_132 : decode cX8_template 132 = .ok (.goto 4, 3) := by decide +kernel
theorem dX8_template_135 : decode cX8_template 135 = .ok (.iconst 0, 1) := by decide +kernel
theorem dX8_template_136 : decode cX8_template 136 = .ok (.iadd, 1) := by decide +kernel
theorem dX8_template_137 : decode cX8_template 137 = .ok (.putfield 181, 3) := by decide +kernel
theorem dX8_template_140 : decode cX8_template 140 = .ok (.aload_n 0, 1) := by decide +kernel
theorem dX8_template_141 : decode cX8_template 141 = .ok (.iconst 0, 1) := by decide +kernel
theorem dX8_template_142 : decode cX8_template 142 = .ok (.putfield 124, 3) := by decide +kernel
theorem dX8_template_145 : decode cX8_template 145 = .ok (.aload_n 0, 1) := by decide +kernel
theorem dX8_template_146 : decode cX8_template 146 = .ok (.getfield 154, 3) := by decide +kernel
theorem dX8_template_149 : decode cX8_template 149 = .ok (.ireturn, 1) := by decide +kernel
theorem dX8_pass_0 : decode cX8_pass 0 = .ok (.aload_n 0, 1) := by decide +kernel
theorem dX8_pass_1 : decode cX8_pass 1 = .ok (.iload_n 1, 1) := by decide +kernel
theorem dX8_pass_2 : decode cX8_pass 2 = .ok (.iconst 1, 1) := by decide +kernel
theorem dX8_pass_3 : decode cX8_pass 3 = .ok (.bipush 99, 2) := by decide +kernel
theorem dX8_pass_5 : decode cX8_pass 5 = .ok (.invokestatic 120, 3) := by decide +kernel
theorem dX8_pass_8 : decode cX8_pass 8 = .ok (.ifCond .eq 7, 3) := by decide +kernel
theorem dX8_pass_11 : decode cX8_pass 11 = .ok (.iconst 0, 1) := by decide +kernel
theorem dX8_pass_12 : decode cX8_pass 12 = .ok (.goto 4, 3) := by decide +kernel
theorem dX8_pass_15 : decode cX8_pass 15 = .ok (.iconst 1, 1) := by decide +kernel
theorem dX8_pass_16 : decode cX8_pass 16 = .ok (.putfield 110, 3) := by decide +kernel
theorem dX8_pass_19 : decode cX8_pass 19 = .ok (.aload_n 0, 1) := by decide +kernel
theorem dX8_pass_20 : decode cX8_pass 20 = .ok (.getfield 110, 3) := by decide +kernel
theorem dX8_pass_23 : decode cX8_pass 23 = .ok (.ifCond .le 5, 3) := by decide +kernel
theorem dX8_pass_26 : decode cX8_pass 26 = .ok (.iconst 0, 1) := by decide +kernel
theorem dX8_pass_27 : decode cX8_pass 27 = .ok (.ireturn, 1) := by decide +kernel
theorem dX8_pass_28 : decode cX8_pass 28 = .ok (.aload_n 0, 1) := by decide +kernel
theorem dX8_pass_29 : decode cX8_pass 29 = .ok (.dup, 1) := by decide +kernel
theorem dX8_pass_30 : decode cX8_pass 30 = .ok (.getfield 187, 3) := by decide +kernel
theorem dX8_pass_33 : decode cX8_pass 33 = .ok (.iload_n 1, 1) := by decide +kernel
theorem dX8_pass_34 : decode cX8_pass 34 = .ok (.iadd, 1) := by decide +kernel
theorem dX8_pass_35 : decode cX8_pass 35 = .ok (.putfield 187, 3) := by decide +kernel
theorem dX8_pass_38 : decode cX8_pass 38 = .ok (.aload_n 0, 1) := by decide +kernel
theorem dX8_pass_39 : decode cX8_pass 39 = .ok (.getfield 187, 3) := by decide +kernel
theorem dX8_pass_42 : decode cX8_pass 42 = .ok (.ireturn, 1) := by decide +kernel
theorem dX8_isFour_0 : decode cX8_isFour 0 = .ok (.iload_n 0, 1) := by decide +kernel
theorem dX8_isFour_1 : decode cX8_isFour 1 = .ok (.iconst 0, 1) := by decide +kernel
theorem dX8_isFour_2 : decode cX8_isFour 2 = .ok (.iconst 3, 1) := by decide +kernel
theorem dX8_isFour_3 : decode cX8_isFour 3 = .ok (.invokestatic 120, 3) := by decide +kernel
theorem dX8_isFour_6 : decode cX8_isFour 6 = .ok (.ireturn, 1) := by decide +kernel
theorem dX8_rate_0 : decode cX8_rate 0 = .ok (.iload_n 1, 1) := by decide +kernel
theorem dX8_rate_1 : decode cX8_rate 1 = .ok (.invokestatic 190, 3) := by decide +kernel
theorem dX8_rate_4 : decode cX8_rate 4 = .ok (.ifCond .eq 14, 3) := by decide +kernel
theorem dX8_rate_7 : decode cX8_rate 7 = .ok (.iload_n 2, 1) := by decide +kernel
theorem dX8_rate_8 : decode cX8_rate 8 = .ok (.invokestatic 190, 3) := by decide +kernel
theorem dX8_rate_11 : decode cX8_rate 11 = .ok (.ifCond .eq 7, 3) := by decide +kernel
theorem dX8_rate_14 : decode cX8_rate 14 = .ok (.iconst 1, 1) := by decide +kernel
theorem dX8_rate_15 : decode cX8_rate 15 = .ok (.goto 4, 3) := by decide +kernel
theorem dX8_rate_18 : decode cX8_rate 18 = .ok (.iconst 0, 1) := by decide +kernel
theorem dX8_rate_19 : decode cX8_rate 19 = .ok (.istore 5, 2) := by decide +kernel
theorem dX8_rate_21 : decode cX8_rate 21 = .ok (.iload_n 3, 1) := by decide +kernel
theorem dX8_rate_22 : decode cX8_rate 22 = .ok (.iconst 0, 1) := by decide +kernel
theorem dX8_rate_23 : decode cX8_rate 23 = .ok (.bipush 100, 2) := by decide +kernel
theorem dX8_rate_25 : decode cX8_rate 25 = .ok (.invokestatic 120, 3) := by decide +kernel
theorem dX8_rate_28 : decode cX8_rate 28 = .ok (.ifCond .eq 19, 3) := by decide +kernel
theorem dX8_rate_31 : decode cX8_rate 31 = .ok (.iload 4, 2) := by decide +kernel
theorem dX8_rate_33 : decode cX8_rate 33 = .ok (.iconst 0, 1) := by decide +kernel
theorem dX8_rate_34 : decode cX8_rate 34 = .ok (.sipush 9999, 3) := by decide +kernel
theorem dX8_rate_37 : decode cX8_rate 37 = .ok (.invokestatic 120, 3) := by decide +kernel
theorem dX8_rate_40 : decode cX8_rate 40 = .ok (.ifCond .eq 7, 3) := by decide +kernel
theorem dX8_rate_43 : decode cX8_rate 43 = .ok (.iconst 1, 1) := by decide +kernel
theorem dX8_rate_44 : decode cX8_rate 44 = .ok (.goto 4, 3) := by decide +kernel
theorem dX8_rate_47 : decode cX8_rate 47 = .ok (.iconst 0, 1) := by decide +kernel
theorem dX8_rate_48 : decode cX8_rate 48 = .ok (.istore 6, 2) := by decide +kernel
theorem dX8_rate_50 : decode cX8_rate 50 = .ok (.aload_n 0, 1) := by decide +kernel
theorem dX8_rate_51 : decode cX8_rate 51 = .ok (.iload 5, 2) := by decide +kernel
theorem dX8_rate_53 : decode cX8_rate 53 = .ok (.ifCond .ne 7, 3) := by decide +kernel
theorem dX8_rate_56 : decode cX8_rate 56 = .ok (.iconst 1, 1) := by decide +kernel
theorem dX8_rate_57 : decode cX8_rate 57 = .ok (.goto 26, 3) := by decide +kernel
theorem dX8_rate_60 : decode cX8_rate 60 = .ok (.iload 6, 2) := by decide +kernel
theorem dX8_rate_62 : decode cX8_rate 62 = .ok (.ifCond .ne 7, 3) := by decide +kernel
theorem dX8_rate_65 : decode cX8_rate 65 = .ok (.iconst 2, 1) := by decide +kernel
theorem dX8_rate_66 : decode cX8_rate 66 = .ok (.goto 17, 3) := by decide +kernel
theorem dX8_rate_69 : decode cX8_rate 69 = .ok (.aload_n 0, 1) := by decide +kernel
theorem dX8_rate_70 : decode cX8_rate 70 = .ok (.getfield 193, 3) := by decide +kernel
theorem dX8_rate_73 : decode cX8_rate 73 = .ok (.bipush 60, 2) := by decide +kernel
theorem dX8_rate_75 : decode cX8_rate 75 = .ok (.if_icmp .ne 7, 3) := by decide +kernel
theorem dX8_rate_78 : decode cX8_rate 78 = .ok (.iconst 3, 1) := by decide +kernel
theorem dX8_rate_79 : decode cX8_rate 79 = .ok (.goto 4, 3) := by decide +kernel
theorem dX8_rate_82 : decode cX8_rate 82 = .ok (.iconst 0, 1) := by decide +kernel
theorem dX8_rate_83 : decode cX8_rate 83 = .ok (.putfield 110, 3) := by decide +kernel
theorem dX8_rate_86 : decode cX8_rate 86 = .ok (.aload_n 0, 1) := by decide +kernel
theorem dX8_rate_87 : decode cX8_rate 87 = .ok (.getfield 110, 3) := by decide +kernel
theorem dX8_rate_90 : decode cX8_rate 90 = .ok (.ifCond .le 5, 3) := by decide +kernel
theorem dX8_rate_93 : decode cX8_rate 93 = .ok (.iconst 0, 1) := by decide +kernel
theorem dX8_rate_94 : decode cX8_rate 94 = .ok (.ireturn, 1) := by decide +kernel
theorem dX8_rate_95 : decode cX8_rate 95 = .ok (.aload_n 0, 1) := by decide +kernel
theorem dX8_rate_96 : decode cX8_rate 96 = .ok (.getfield 38, 3) := by decide +kernel
theorem dX8_rate_99 : decode cX8_rate 99 = .ok (.aload_n 0, 1) := by decide +kernel
theorem dX8_rate_100 : decode cX8_rate 100 = .ok (.getfield 193, 3) := by decide +kernel
theorem dX8_rate_103 : decode cX8_rate 103 = .ok (.iload_n 1, 1) := by decide +kernel
theorem dX8_rate_104 : decode cX8_rate 104 = .ok (.iastore, 1) := by decide +kernel
theorem dX8_rate_105 : decode cX8_rate 105 = .ok (.aload_n 0, 1) := by decide +kernel
theorem dX8_rate_106 : decode cX8_rate 106 = .ok (.getfield 41, 3) := by decide +kernel
theorem dX8_rate_109 : decode cX8_rate 109 = .ok (.aload_n 0, 1) := by decide +kernel
theorem dX8_rate_110 : decode cX8_rate 110 = .ok (.getfield 193, 3) := by decide +kernel
theorem dX8_rate_113 : decode cX8_rate 113 = .ok (.iload_n 2, 1) := by decide +kernel
theorem dX8_rate_114 : decode cX8_rate 114 = .ok (.iastore, 1) := by decide +kernel
theorem dX8_rate_115 : decode cX8_rate 115 = .ok (.aload_n 0, 1) := by decide +kernel
theorem dX8_rate_116 : decode cX8_rate 116 = .ok (.getfield 44, 3) := by decide +kernel
theorem dX8_rate_119 : decode cX8_rate 119 = .ok (.aload_n 0, 1) := by decide +kernel
theorem dX8_rate_120 : decode cX8_rate 120 = .ok (.getfield 193, 3) := by decide +kernel
theorem dX8_rate_123 : decode cX8_rate 123 = .ok (.iload_n 3, 1) := by decide +kernel
theorem dX8_rate_124 : decode cX8_rate 124 = .ok (.iastore, 1) := by decide +kernel
theorem dX8_rate_125 : decode cX8_rate 125 = .ok (.aload_n 0, 1) := by decide +kernel
theorem dX8_rate_126 : decode cX8_rate 126 = .ok (.getfield 47, 3) := by decide +kernel
theorem dX8_rate_129 : decode cX8_rate 129 = .ok (.aload_n 0, 1) := by decide +kernel
theorem dX8_rate_130 : decode cX8_rate 130 = .ok (.getfield 193, 3) := by decide +kernel
theorem dX8_rate_133 : decode cX8_rate 133 = .ok (.iload 4, 2) := by decide +kernel
theorem dX8_rate_135 : decode cX8_rate 135 = .ok (.iastore, 1) := by decide +kernel
theorem dX8_rate_136 : decode cX8_rate 136 = .ok (.aload_n 0, 1) := by decide +kernel
theorem dX8_rate_137 : decode cX8_rate 137 = .ok (.dup, 1) := by decide +kernel
theorem dX8_rate_138 : decode cX8_rate 138 = .ok (.getfield 193, 3) := by decide +kernel
theorem dX8_rate_141 : decode cX8_rate 141 = .ok (.iconst 1, 1) := by decide +kernel
theorem dX8_rate_142 : decode cX8_rate 142 = .ok (.iadd, 1) := by decide +kernel
theorem dX8_rate_143 : decode cX8_rate 143 = .ok (.putfield 193, 3) := by decide +kernel
theorem dX8_rate_146 : decode cX8_rate 146 = .ok (.aload_n 0, 1) := by decide +kernel
theorem dX8_rate_147 : decode cX8_rate 147 = .ok (.getfield 193, 3) := by decide +kernel
theorem dX8_rate_150 : decode cX8_rate 150 = .ok (.iconst 1, 1) := by decide +kernel
theorem dX8_rate_151 : decode cX8_rate 151 = .ok (.isub, 1) := by decide +kernel
theorem dX8_rate_152 : decode cX8_rate 152 = .ok (.ireturn, 1) := by decide +kernel
theorem dX8_tellingOf_0 : decode cX8_tellingOf 0 = .ok (.iconst (-1), 1) := by decide +kernel
theorem dX8_tellingOf_1 : decode cX8_tellingOf 1 = .ok (.istore 4, 2) := by decide +kernel
theorem dX8_tellingOf_3 : decode cX8_tellingOf 3 = .ok (.iconst 0, 1) := by decide +kernel
theorem dX8_tellingOf_4 : decode cX8_tellingOf 4 = .ok (.istore 5, 2) := by decide +kernel
theorem dX8_tellingOf_6 : decode cX8_tellingOf 6 = .ok (.iload 5, 2) := by decide +kernel
theorem dX8_tellingOf_8 : decode cX8_tellingOf 8 = .ok (.aload_n 0, 1) := by decide +kernel
theorem dX8_tellingOf_9 : decode cX8_tellingOf 9 = .ok (.getfield 193, 3) := by decide +kernel
theorem dX8_tellingOf_12 : decode cX8_tellingOf 12 = .ok (.if_icmp .ge 86, 3) := by decide +kernel
theorem dX8_tellingOf_15 : decode cX8_tellingOf 15 = .ok (.aload_n 0, 1) := by decide +kernel
theorem dX8_tellingOf_16 : decode cX8_tellingOf 16 = .ok (.getfield 38, 3) := by decide +kernel
theorem dX8_tellingOf_19 : decode cX8_tellingOf 19 = .ok (.iload 5, 2) := by decide +kernel
theorem dX8_tellingOf_21 : decode cX8_tellingOf 21 = .ok (.iaload, 1) := by decide +kernel
theorem dX8_tellingOf_22 : decode cX8_tellingOf 22 = .ok (.iload_n 1, 1) := by decide +kernel
theorem dX8_tellingOf_23 : decode cX8_tellingOf 23 = .ok (.if_icmp .ne 29, 3) := by decide +kernel
theorem dX8_tellingOf_26 : decode cX8_tellingOf 26 = .ok (.aload_n 0, 1) := by decide +kernel
theorem dX8_tellingOf_27 : decode cX8_tellingOf 27 = .ok (.getfield 41, 3) := by decide +kernel
theorem dX8_tellingOf_30 : decode cX8_tellingOf 30 = .ok (.iload 5, 2) := by decide +kernel
theorem dX8_tellingOf_32 : decode cX8_tellingOf 32 = .ok (.iaload, 1) := by decide +kernel
theorem dX8_tellingOf_33 : decode cX8_tellingOf 33 = .ok (.iload_n 2, 1) := by decide +kernel
theorem dX8_tellingOf_34 : decode cX8_tellingOf 34 = .ok (.if_icmp .ne 18, 3) := by decide +kernel
theorem dX8_tellingOf_37 : decode cX8_tellingOf 37 = .ok (.aload_n 0, 1) := by decide +kernel
theorem dX8_tellingOf_38 : decode cX8_tellingOf 38 = .ok (.getfield 47, 3) := by decide +kernel
theorem dX8_tellingOf_41 : decode cX8_tellingOf 41 = .ok (.iload 5, 2) := by decide +kernel
theorem dX8_tellingOf_43 : decode cX8_tellingOf 43 = .ok (.iaload, 1) := by decide +kernel
theorem dX8_tellingOf_44 : decode cX8_tellingOf 44 = .ok (.iload_n 3, 1) := by decide +kernel
theorem dX8_tellingOf_45 : decode cX8_tellingOf 45 = .ok (.if_icmp .gt 7, 3) := by decide +kernel
theorem dX8_tellingOf_48 : decode cX8_tellingOf 48 = .ok (.iconst 1, 1) := by decide +kernel
theorem dX8_tellingOf_49 : decode cX8_tellingOf 49 = .ok (.goto 4, 3) := by decide +kernel
theorem dX8_tellingOf_52 : decode cX8_tellingOf 52 = .ok (.iconst 0, 1) := by decide +kernel
theorem dX8_tellingOf_53 : decode cX8_tellingOf 53 = .ok (.istore 6, 2) := by decide +kernel
theorem dX8_tellingOf_55 : decode cX8_tellingOf 55 = .ok (.iload 6, 2) := by decide +kernel
theorem dX8_tellingOf_57 : decode cX8_tellingOf 57 = .ok (.ifCond .eq 31, 3) := by decide +kernel
theorem dX8_tellingOf_60 : decode cX8_tellingOf 60 = .ok (.iload 4, 2) := by decide +kernel
theorem dX8_tellingOf_62 : decode cX8_tellingOf 62 = .ok (.iconst (-1), 1) := by decide +kernel
theorem dX8_tellingOf_63 : decode cX8_tellingOf 63 = .ok (.if_icmp .eq 20, 3) := by decide +kernel
theorem dX8_tellingOf_66 : decode cX8_tellingOf 66 = .ok (.aload_n 0, 1) := by decide +kernel
theorem dX8_tellingOf_67 : decode cX8_tellingOf 67 = .ok (.getfield 47, 3) := by decide +kernel
theorem dX8_tellingOf_70 : decode cX8_tellingOf 70 = .ok (.iload 5, 2) := by decide +kernel
theorem dX8_tellingOf_72 : decode cX8_tellingOf 72 = .ok (.iaload, 1) := by decide +kernel
theorem dX8_tellingOf_73 : decode cX8_tellingOf 73 = .ok (.aload_n 0, 1) := by decide +kernel
theorem dX8_tellingOf_74 : decode cX8_tellingOf 74 = .ok (.getfield 47, 3) := by decide +kernel
theorem dX8_tellingOf_77 : decode cX8_tellingOf 77 = .ok (.iload 4, 2) := by decide +kernel
theorem dX8_tellingOf_79 : decode cX8_tellingOf 79 = .ok (.iaload, 1) := by decide +kernel
theorem dX8_tellingOf_80 : decode cX8_tellingOf 80 = .ok (.if_icmp .lt 8, 3) := by decide +kernel
theorem dX8_tellingOf_83 : decode cX8_tellingOf 83 = .ok (.iload 5, 2) := by decide +kernel
theorem dX8_tellingOf_85 : decode cX8_tellingOf 85 = .ok (.goto 5, 3) := by decide +kernel
theorem dX8_tellingOf_88 : decode cX8_tellingOf 88 = .ok (.iload 4, 2) := by decide +kernel
theorem dX8_tellingOf_90 : decode cX8_tellingOf 90 = .ok (.istore 4, 2) := by decide +kernel
theorem dX8_tellingOf_92 : decode cX8_tellingOf 92 = .ok (.iinc 5 1, 3) := by decide +kernel
theorem dX8_tellingOf_95 : decode cX8_tellingOf 95 = .ok (.goto (-89), 3) := by decide +kernel
theorem dX8_tellingOf_98 : decode cX8_tellingOf 98 = .ok (.iload 4, 2) := by decide +kernel
theorem dX8_tellingOf_100 : decode cX8_tellingOf 100 = .ok (.ireturn, 1) := by decide +kernel
theorem dX8_telling_0 : decode cX8_telling 0 = .ok (.iload_n 1, 1) := by decide +kernel
theorem dX8_telling_1 : decode cX8_telling 1 = .ok (.invokestatic 190, 3) := by decide +kernel
theorem dX8_telling_4 : decode cX8_telling 4 = .ok (.ifCond .eq 14, 3) := by decide +kernel
theorem dX8_telling_7 : decode cX8_telling 7 = .ok (.iload_n 2, 1) := by decide +kernel
theorem dX8_telling_8 : decode cX8_telling 8 = .ok (.invokestatic 190, 3) := by decide +kernel
theorem dX8_telling_11 : decode cX8_telling 11 = .ok (.ifCond .eq 7, 3) := by decide +kernel
theorem dX8_telling_14 : decode cX8_telling 14 = .ok (.iconst 1, 1) := by decide +kernel
theorem dX8_telling_15 : decode cX8_telling 15 = .ok (.goto 4, 3) := by decide +kernel
theorem dX8_telling_18 : decode cX8_telling 18 = .ok (.iconst 0, 1) := by decide +kernel
theorem dX8_telling_19 : decode cX8_telling 19 = .ok (.istore 4, 2) := by decide +kernel
theorem dX8_telling_21 : decode cX8_telling 21 = .ok (.aload_n 0, 1) := by decide +kernel
theorem dX8_telling_22 : decode cX8_telling 22 = .ok (.iload 4, 2) := by decide +kernel
theorem dX8_telling_24 : decode cX8_telling 24 = .ok (.ifCond .ne 7, 3) := by decide +kernel
theorem dX8_telling_27 : decode cX8_telling 27 = .ok (.iconst 1, 1) := by decide +kernel
theorem dX8_telling_28 : decode cX8_telling 28 = .ok (.goto 19, 3) := by decide +kernel
theorem dX8_telling_31 : decode cX8_telling 31 = .ok (.iload_n 3, 1) := by decide +kernel
theorem dX8_telling_32 : decode cX8_telling 32 = .ok (.iconst 0, 1) := by decide +kernel
theorem dX8_telling_33 : decode cX8_telling 33 = .ok (.sipush 9999, 3) := by decide +kernel
theorem dX8_telling_36 : decode cX8_telling 36 = .ok (.invokestatic 120, 3) := by decide +kernel
theorem dX8_telling_39 : decode cX8_telling 39 = .ok (.ifCond .ne 7, 3) := by decide +kernel
theorem dX8_telling_42 : decode cX8_telling 42 = .ok (.iconst 2, 1) := by decide +kernel
theorem dX8_telling_43 : decode cX8_telling 43 = .ok (.goto 4, 3) := by decide +kernel
theorem dX8_telling_46 : decode cX8_telling 46 = .ok (.iconst 0, 1) := by decide +kernel
theorem dX8_telling_47 : decode cX8_telling 47 = .ok (.putfield 110, 3) := by decide +kernel
theorem dX8_telling_50 : decode cX8_telling 50 = .ok (.aload_n 0, 1) := by decide +kernel
theorem dX8_telling_51 : decode cX8_telling 51 = .ok (.getfield 110, 3) := by decide +kernel
theorem dX8_telling_54 : decode cX8_telling 54 = .ok (.ifCond .le 7, 3) := by decide +kernel
theorem dX8_telling_57 : decode cX8_telling 57 = .ok (.iconst 0, 1) := by decide +kernel
theorem dX8_telling_58 : decode cX8_telling 58 = .ok (.goto 10, 3) := by decide +kernel
theorem dX8_telling_61 : decode cX8_telling 61 = .ok (.aload_n 0, 1) := by decide +kernel
theorem dX8_telling_62 : decode cX8_telling 62 = .ok (.iload_n 1, 1) := by decide +kernel
theorem dX8_telling_63 : decode cX8_telling 63 = .ok (.iload_n 2, 1) := by decide +kernel
theorem dX8_telling_64 : decode cX8_telling 64 = .ok (.iload_n 3, 1) := by decide +kernel
theorem dX8_telling_65 : decode cX8_telling 65 = .ok (.invokevirtual 196, 3) := by decide +kernel
theorem dX8_telling_68 : decode cX8_telling 68 = .ok (.ireturn, 1) := by decide +kernel
theorem dX8_round_0 : decode cX8_round 0 = .ok (.aload_n 0, 1) := by decide +kernel
theorem dX8_round_1 : decode cX8_round 1 = .ok (.iload_n 1, 1) := by decide +kernel
theorem dX8_round_2 : decode cX8_round 2 = .ok (.invokestatic 190, 3) := by decide +kernel
theorem dX8_round_5 : decode cX8_round 5 = .ok (.ifCond .ne 7, 3) := by decide +kernel
theorem dX8_round_8 : decode cX8_round 8 = .ok (.iconst 1, 1) := by decide +kernel
theorem dX8_round_9 : decode cX8_round 9 = .ok (.goto 17, 3) := by decide +kernel
theorem dX8_round_12 : decode cX8_round 12 = .ok (.iload_n 2, 1) := by decide +kernel
theorem dX8_round_13 : decode cX8_round 13 = .ok (.iconst 0, 1) := by decide +kernel
theorem dX8_round_14 : decode cX8_round 14 = .ok (.iconst 2, 1) := by decide +kernel
theorem dX8_round_15 : decode cX8_round 15 = .ok (.invokestatic 120, 3) := by decide +kernel
theorem dX8_round_18 : decode cX8_round 18 = .ok (.ifCond .ne 7, 3) := by decide +kernel
theorem dX8_round_21 : decode cX8_round 21 = .ok (.iconst 2, 1) := by decide +kernel
theorem dX8_round_22 : decode cX8_round 22 = .ok (.goto 4, 3) := by decide +kernel
theorem dX8_round_25 : decode cX8_round 25 = .ok (.iconst 0, 1) := by decide +kernel
theorem dX8_round_26 : decode cX8_round 26 = .ok (.putfield 110, 3) := by decide +kernel
theorem dX8_round_29 : decode cX8_round 29 = .ok (.aload_n 0, 1) := by decide +kernel
theorem dX8_round_30 : decode cX8_round 30 = .ok (.getfield 110, 3) := by decide +kernel
theorem dX8_round_33 : decode cX8_round 33 = .ok (.ifCond .le 5, 3) := by decide +kernel
theorem dX8_round_36 : decode cX8_round 36 = .ok (.iconst 0, 1) := by decide +kernel
theorem dX8_round_37 : decode cX8_round 37 = .ok (.ireturn, 1) := by decide +kernel
theorem dX8_round_38 : decode cX8_round 38 = .ok (.aload_n 0, 1) := by decide +kernel
theorem dX8_round_39 : decode cX8_round 39 = .ok (.getfield 50, 3) := by decide +kernel
theorem dX8_round_42 : decode cX8_round 42 = .ok (.iload_n 1, 1) := by decide +kernel
theorem dX8_round_43 : decode cX8_round 43 = .ok (.iaload, 1) := by decide +kernel
theorem dX8_round_44 : decode cX8_round 44 = .ok (.istore_n 3, 1) := by decide +kernel
theorem dX8_round_45 : decode cX8_round 45 = .ok (.aload_n 0, 1) := by decide +kernel
theorem dX8_round_46 : decode cX8_round 46 = .ok (.getfield 50, 3) := by decide +kernel
theorem dX8_round_49 : decode cX8_round 49 = .ok (.iload_n 1, 1) := by decide +kernel
theorem dX8_round_50 : decode cX8_round 50 = .ok (.iload_n 2, 1) := by decide +kernel
theorem dX8_round_51 : decode cX8_round 51 = .ok (.iastore, 1) := by decide +kernel
theorem dX8_round_52 : decode cX8_round 52 = .ok (.iload_n 3, 1) := by decide +kernel
theorem dX8_round_53 : decode cX8_round 53 = .ok (.ireturn, 1) := by decide +kernel
theorem dX8_client_0 : decode cX8_client 0 = .ok (.aload_n 0, 1) := by decide +kernel
theorem dX8_client_1 : decode cX8_client 1 = .ok (.iload_n 1, 1) := by decide +kernel
theorem dX8_client_2 : decode cX8_client 2 = .ok (.iconst 0, 1) := by decide +kernel
theorem dX8_client_3 : decode cX8_client 3 = .ok (.bipush 9, 2) := by decide +kernel
theorem dX8_client_5 : decode cX8_client 5 = .ok (.invokestatic 120, 3) := by decide +kernel
theorem dX8_client_8 : decode cX8_client 8 = .ok (.ifCond .eq 14, 3) := by decide +kernel
theorem dX8_client_11 : decode cX8_client 11 = .ok (.iload_n 2, 1) := by decide +kernel
theorem dX8_client_12 : decode cX8_client 12 = .ok (.invokestatic 190, 3) := by decide +kernel
theorem dX8_client_15 : decode cX8_client 15 = .ok (.ifCond .eq 7, 3) := by decide +kernel
theorem dX8_client_18 : decode cX8_client 18 = .ok (.iconst 0, 1) := by decide +kernel
theorem dX8_client_19 : decode cX8_client 19 = .ok (.goto 4, 3) := by decide +kernel
theorem dX8_client_22 : decode cX8_client 22 = .ok (.iconst 1, 1) := by decide +kernel
theorem dX8_client_23 : decode cX8_client 23 = .ok (.putfield 110, 3) := by decide +kernel
theorem dX8_client_26 : decode cX8_client 26 = .ok (.aload_n 0, 1) := by decide +kernel
theorem dX8_client_27 : decode cX8_client 27 = .ok (.getfield 110, 3) := by decide +kernel
theorem dX8_client_30 : decode cX8_client 30 = .ok (.ifCond .le 5, 3) := by decide +kernel
theorem dX8_client_33 : decode cX8_client 33 = .ok (.iconst 0, 1) := by decide +kernel
theorem dX8_client_34 : decode cX8_client 34 = .ok (.ireturn, 1) := by decide +kernel
theorem dX8_client_35 : decode cX8_client 35 = .ok (.aload_n 0, 1) := by decide +kernel
theorem dX8_client_36 : decode cX8_client 36 = .ok (.getfield 53, 3) := by decide +kernel
theorem dX8_client_39 : decode cX8_client 39 = .ok (.iload_n 1, 1) := by decide +kernel
theorem dX8_client_40 : decode cX8_client 40 = .ok (.iaload, 1) := by decide +kernel
theorem dX8_client_41 : decode cX8_client 41 = .ok (.istore_n 3, 1) := by decide +kernel
theorem dX8_client_42 : decode cX8_client 42 = .ok (.aload_n 0, 1) := by decide +kernel
theorem dX8_client_43 : decode cX8_client 43 = .ok (.getfield 53, 3) := by decide +kernel
theorem dX8_client_46 : decode cX8_client 46 = .ok (.iload_n 1, 1) := by decide +kernel
theorem dX8_client_47 : decode cX8_client 47 = .ok (.iload_n 2, 1) := by decide +kernel
theorem dX8_client_48 : decode cX8_client 48 = .ok (.iastore, 1) := by decide +kernel
theorem dX8_client_49 : decode cX8_client 49 = .ok (.iload_n 3, 1) := by decide +kernel
theorem dX8_client_50 : decode cX8_client 50 = .ok (.ireturn, 1) := by decide +kernel
theorem dX8_line_0 : decode cX8_line 0 = .ok (.iload_n 2, 1) := by decide +kernel
theorem dX8_line_1 : decode cX8_line 1 = .ok (.iconst 1, 1) := by decide +kernel
theorem dX8_line_2 : decode cX8_line 2 = .ok (.bipush 99, 2) := by decide +kernel
theorem dX8_line_4 : decode cX8_line 4 = .ok (.invokestatic 120, 3) := by decide +kernel
theorem dX8_line_7 : decode cX8_line 7 = .ok (.ifCond .eq 18, 3) := by decide +kernel
theorem dX8_line_10 : decode cX8_line 10 = .ok (.iload_n 3, 1) := by decide +kernel
theorem dX8_line_11 : decode cX8_line 11 = .ok (.iconst 1, 1) := by decide +kernel
theorem dX8_line_12 : decode cX8_line 12 = .ok (.sipush 9999, 3) := by decide +kernel
theorem dX8_line_15 : decode cX8_line 15 = .ok (.invokestatic 120, 3) := by decide +kernel
theorem dX8_line_18 : decode cX8_line 18 = .ok (.ifCond .eq 7, 3) := by decide +kernel
theorem dX8_line_21 : decode cX8_line 21 = .ok (.iconst 1, 1) := by decide +kernel
theorem dX8_line_22 : decode cX8_line 22 = .ok (.goto 4, 3) := by decide +kernel
theorem dX8_line_25 : decode cX8_line 25 = .ok (.iconst 0, 1) := by decide +kernel
theorem dX8_line_26 : decode cX8_line 26 = .ok (.istore 4, 2) := by decide +kernel
theorem dX8_line_28 : decode cX8_line 28 = .ok (.aload_n 0, 1) := by decide +kernel
theorem dX8_line_29 : decode cX8_line 29 = .ok (.iload_n 1, 1) := by decide +kernel
theorem dX8_line_30 : decode cX8_line 30 = .ok (.invokestatic 190, 3) := by decide +kernel
theorem dX8_line_33 : decode cX8_line 33 = .ok (.ifCond .ne 7, 3) := by decide +kernel
theorem dX8_line_36 : decode cX8_line 36 = .ok (.iconst 1, 1) := by decide +kernel
theorem dX8_line_37 : decode cX8_line 37 = .ok (.goto 26, 3) := by decide +kernel
theorem dX8_line_40 : decode cX8_line 40 = .ok (.iload 4, 2) := by decide +kernel
theorem dX8_line_42 : decode cX8_line 42 = .ok (.ifCond .ne 7, 3) := by decide +kernel
theorem dX8_line_45 : decode cX8_line 45 = .ok (.iconst 2, 1) := by decide +kernel
theorem dX8_line_46 : decode cX8_line 46 = .ok (.goto 17, 3) := by decide +kernel
theorem dX8_line_49 : decode cX8_line 49 = .ok (.aload_n 0, 1) := by decide +kernel
theorem dX8_line_50 : decode cX8_line 50 = .ok (.getfield 200, 3) := by decide +kernel
theorem dX8_line_53 : decode cX8_line 53 = .ok (.bipush 6, 2) := by decide +kernel
theorem dX8_line_55 : decode cX8_line 55 = .ok (.if_icmp .ne 7, 3) := by decide +kernel
theorem dX8_line_58 : decode cX8_line 58 = .ok (.iconst 3, 1) := by decide +kernel
theorem dX8_line_59 : decode cX8_line 59 = .ok (.goto 4, 3) := by decide +kernel
theorem dX8_line_62 : decode cX8_line 62 = .ok (.iconst 0, 1) := by decide +kernel
theorem dX8_line_63 : decode cX8_line 63 = .ok (.putfield 110, 3) := by decide +kernel
theorem dX8_line_66 : decode cX8_line 66 = .ok (.aload_n 0, 1) := by decide +kernel
theorem dX8_line_67 : decode cX8_line 67 = .ok (.getfield 110, 3) := by decide +kernel
theorem dX8_line_70 : decode cX8_line 70 = .ok (.ifCond .le 5, 3) := by decide +kernel
theorem dX8_line_73 : decode cX8_line 73 = .ok (.iconst 0, 1) := by decide +kernel
theorem dX8_line_74 : decode cX8_line 74 = .ok (.ireturn, 1) := by decide +kernel
theorem dX8_line_75 : decode cX8_line 75 = .ok (.aload_n 0, 1) := by decide +kernel
theorem dX8_line_76 : decode cX8_line 76 = .ok (.getfield 56, 3) := by decide +kernel
theorem dX8_line_79 : decode cX8_line 79 = .ok (.aload_n 0, 1) := by decide +kernel
theorem dX8_line_80 : decode cX8_line 80 = .ok (.getfield 200, 3) := by decide +kernel
theorem dX8_line_83 : decode cX8_line 83 = .ok (.iload_n 1, 1) := by decide +kernel
theorem dX8_line_84 : decode cX8_line 84 = .ok (.iastore, 1) := by decide +kernel
theorem dX8_line_85 : decode cX8_line 85 = .ok (.aload_n 0, 1) := by decide +kernel
theorem dX8_line_86 : decode cX8_line 86 = .ok (.getfield 59, 3) := by decide +kernel
theorem dX8_line_89 : decode cX8_line 89 = .ok (.aload_n 0, 1) := by decide +kernel
theorem dX8_line_90 : decode cX8_line 90 = .ok (.getfield 200, 3) := by decide +kernel
theorem dX8_line_93 : decode cX8_line 93 = .ok (.iload_n 2, 1) := by decide +kernel
theorem dX8_line_94 : decode cX8_line 94 = .ok (.iastore, 1) := by decide +kernel
theorem dX8_line_95 : decode cX8_line 95 = .ok (.aload_n 0, 1) := by decide +kernel
theorem dX8_line_96 : decode cX8_line 96 = .ok (.getfield 62, 3) := by decide +kernel
theorem dX8_line_99 : decode cX8_line 99 = .ok (.aload_n 0, 1) := by decide +kernel
theorem dX8_line_100 : decode cX8_line 100 = .ok (.getfield 200, 3) := by decide +kernel
theorem dX8_line_103 : decode cX8_line 103 = .ok (.iload_n 3, 1) := by decide +kernel
theorem dX8_line_104 : decode cX8_line 104 = .ok (.iastore, 1) := by decide +kernel
theorem dX8_line_105 : decode cX8_line 105 = .ok (.aload_n 0, 1) := by decide +kernel
theorem dX8_line_106 : decode cX8_line 106 = .ok (.dup, 1) := by decide +kernel
theorem dX8_line_107 : decode cX8_line 107 = .ok (.getfield 200, 3) := by decide +kernel
theorem dX8_line_110 : decode cX8_line 110 = .ok (.iconst 1, 1) := by decide +kernel
theorem dX8_line_111 : decode cX8_line 111 = .ok (.iadd, 1) := by decide +kernel
theorem dX8_line_112 : decode cX8_line 112 = .ok (.putfield 200, 3) := by decide +kernel
theorem dX8_line_115 : decode cX8_line 115 = .ok (.aload_n 0, 1) := by decide +kernel
theorem dX8_line_116 : decode cX8_line 116 = .ok (.getfield 200, 3) := by decide +kernel
theorem dX8_line_119 : decode cX8_line 119 = .ok (.ireturn, 1) := by decide +kernel
theorem dX8_strike_0 : decode cX8_strike 0 = .ok (.aload_n 0, 1) := by decide +kernel
theorem dX8_strike_1 : decode cX8_strike 1 = .ok (.iload_n 1, 1) := by decide +kernel
theorem dX8_strike_2 : decode cX8_strike 2 = .ok (.iconst 0, 1) := by decide +kernel
theorem dX8_strike_3 : decode cX8_strike 3 = .ok (.aload_n 0, 1) := by decide +kernel
theorem dX8_strike_4 : decode cX8_strike 4 = .ok (.getfield 200, 3) := by decide +kernel
theorem dX8_strike_7 : decode cX8_strike 7 = .ok (.iconst 1, 1) := by decide +kernel
theorem dX8_strike_8 : decode cX8_strike 8 = .ok (.isub, 1) := by decide +kernel
theorem dX8_strike_9 : decode cX8_strike 9 = .ok (.invokestatic 120, 3) := by decide +kernel
theorem dX8_strike_12 : decode cX8_strike 12 = .ok (.ifCond .eq 7, 3) := by decide +kernel
theorem dX8_strike_15 : decode cX8_strike 15 = .ok (.iconst 0, 1) := by decide +kernel
theorem dX8_strike_16 : decode cX8_strike 16 = .ok (.goto 4, 3) := by decide +kernel
theorem dX8_strike_19 : decode cX8_strike 19 = .ok (.iconst 1, 1) := by decide +kernel
theorem dX8_strike_20 : decode cX8_strike 20 = .ok (.putfield 110, 3) := by decide +kernel
theorem dX8_strike_23 : decode cX8_strike 23 = .ok (.aload_n 0, 1) := by decide +kernel
theorem dX8_strike_24 : decode cX8_strike 24 = .ok (.getfield 110, 3) := by decide +kernel
theorem dX8_strike_27 : decode cX8_strike 27 = .ok (.ifCond .le 5, 3) := by decide +kernel
theorem dX8_strike_30 : decode cX8_strike 30 = .ok (.iconst 0, 1) := by decide +kernel
theorem dX8_strike_31 : decode cX8_strike 31 = .ok (.ireturn, 1) := by decide +kernel
theorem dX8_strike_32 : decode cX8_strike 32 = .ok (.iload_n 1, 1) := by decide +kernel
theorem dX8_strike_33 : decode cX8_strike 33 = .ok (.istore_n 2, 1) := by decide +kernel
theorem dX8_strike_34 : decode cX8_strike 34 = .ok (.iload_n 2, 1) := by decide +kernel
theorem dX8_strike_35 : decode cX8_strike 35 = .ok (.aload_n 0, 1) := by decide +kernel
theorem dX8_strike_36 : decode cX8_strike 36 = .ok (.getfield 200, 3) := by decide +kernel
theorem dX8_strike_39 : decode cX8_strike 39 = .ok (.iconst 1, 1) := by decide +kernel
theorem dX8_strike_40 : decode cX8_strike 40 = .ok (.isub, 1) := by decide +kernel
theorem dX8_strike_41 : decode cX8_strike 41 = .ok (.if_icmp .ge 51, 3) := by decide +kernel
theorem dX8_strike_44 : decode cX8_strike 44 = .ok (.aload_n 0, 1) := by decide +kernel
theorem dX8_strike_45 : decode cX8_strike 45 = .ok (.getfield 56, 3) := by decide +kernel
theorem dX8_strike_48 : decode cX8_strike 48 = .ok (.iload_n 2, 1) := by decide +kernel
theorem dX8_strike_49 : decode cX8_strike 49 = .ok (.aload_n 0, 1) := by decide +kernel
theorem dX8_strike_50 : decode cX8_strike 50 = .ok (.getfield 56, 3) := by decide +kernel
theorem dX8_strike_53 : decode cX8_strike 53 = .ok (.iload_n 2, 1) := by decide +kernel
theorem dX8_strike_54 : decode cX8_strike 54 = .ok (.iconst 1, 1) := by decide +kernel
theorem dX8_strike_55 : decode cX8_strike 55 = .ok (.iadd, 1) := by decide +kernel
theorem dX8_strike_56 : decode cX8_strike 56 = .ok (.iaload, 1) := by decide +kernel
