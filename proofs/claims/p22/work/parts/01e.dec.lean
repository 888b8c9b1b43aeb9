theorem dX5_init_0 : decode cX5_init 0 = .ok (.aload_n 0, 1) := by decide +kernel
theorem dX5_init_1 : decode cX5_init 1 = .ok (.invokespecial 3, 3) := by decide +kernel
theorem dX5_init_4 : decode cX5_init 4 = .ok (.aload_n 0, 1) := by decide +kernel
theorem dX5_init_5 : decode cX5_init 5 = .ok (.new 9, 3) := by decide +kernel
theorem dX5_init_8 : decode cX5_init 8 = .ok (.dup, 1) := by decide +kernel
theorem dX5_init_9 : decode cX5_init 9 = .ok (.invokespecial 11, 3) := by decide +kernel
theorem dX5_init_12 : decode cX5_init 12 = .ok (.putfield 12, 3) := by decide +kernel
theorem dX5_init_15 : decode cX5_init 15 = .ok (.aload_n 0, 1) := by decide +kernel
theorem dX5_init_16 : decode cX5_init 16 = .ok (.new 18, 3) := by decide +kernel
theorem dX5_init_19 : decode cX5_init 19 = .ok (.dup, 1) := by decide +kernel
theorem dX5_init_20 : decode cX5_init 20 = .ok (.invokespecial 20, 3) := by decide +kernel
theorem dX5_init_23 : decode cX5_init 23 = .ok (.putfield 21, 3) := by decide +kernel
theorem dX5_init_26 : decode cX5_init 26 = .ok (.return_, 1) := by decide +kernel
theorem dX5_readPage_0 : decode cX5_readPage 0 = .ok (.aload_n 0, 1) := by decide +kernel
theorem dX5_readPage_1 : decode cX5_readPage 1 = .ok (.getfield 21, 3) := by decide +kernel
theorem dX5_readPage_4 : decode cX5_readPage 4 = .ok (.iconst 0, 1) := by decide +kernel
theorem dX5_readPage_5 : decode cX5_readPage 5 = .ok (.putfield 25, 3) := by decide +kernel
theorem dX5_readPage_8 : decode cX5_readPage 8 = .ok (.aload_n 0, 1) := by decide +kernel
theorem dX5_readPage_9 : decode cX5_readPage 9 = .ok (.iconst 0, 1) := by decide +kernel
theorem dX5_readPage_10 : decode cX5_readPage 10 = .ok (.putfield 29, 3) := by decide +kernel
theorem dX5_readPage_13 : decode cX5_readPage 13 = .ok (.aload_n 0, 1) := by decide +kernel
theorem dX5_readPage_14 : decode cX5_readPage 14 = .ok (.iconst 0, 1) := by decide +kernel
theorem dX5_readPage_15 : decode cX5_readPage 15 = .ok (.putfield 32, 3) := by decide +kernel
theorem dX5_readPage_18 : decode cX5_readPage 18 = .ok (.aload_n 0, 1) := by decide +kernel
theorem dX5_readPage_19 : decode cX5_readPage 19 = .ok (.iconst 0, 1) := by decide +kernel
theorem dX5_readPage_20 : decode cX5_readPage 20 = .ok (.iconst 0, 1) := by decide +kernel
theorem dX5_readPage_21 : decode cX5_readPage 21 = .ok (.iconst 0, 1) := by decide +kernel
theorem dX5_readPage_22 : decode cX5_readPage 22 = .ok (.invokevirtual 35, 3) := by decide +kernel
theorem dX5_readPage_25 : decode cX5_readPage 25 = .ok (.ifCond .eq 21, 3) := by decide +kernel
theorem dX5_readPage_28 : decode cX5_readPage 28 = .ok (.aload_n 0, 1) := by decide +kernel
theorem dX5_readPage_29 : decode cX5_readPage 29 = .ok (.getfield 29, 3) := by decide +kernel
theorem dX5_readPage_32 : decode cX5_readPage 32 = .ok (.aload_n 0, 1) := by decide +kernel
theorem dX5_readPage_33 : decode cX5_readPage 33 = .ok (.getfield 12, 3) := by decide +kernel
theorem dX5_readPage_36 : decode cX5_readPage 36 = .ok (.getfield 39, 3) := by decide +kernel
theorem dX5_readPage_39 : decode cX5_readPage 39 = .ok (.if_icmp .ne 7, 3) := by decide +kernel
theorem dX5_readPage_42 : decode cX5_readPage 42 = .ok (.iconst 1, 1) := by decide +kernel
theorem dX5_readPage_43 : decode cX5_readPage 43 = .ok (.goto 4, 3) := by decide +kernel
theorem dX5_readPage_46 : decode cX5_readPage 46 = .ok (.iconst 0, 1) := by decide +kernel
theorem dX5_readPage_47 : decode cX5_readPage 47 = .ok (.istore_n 1, 1) := by decide +kernel
theorem dX5_readPage_48 : decode cX5_readPage 48 = .ok (.aload_n 0, 1) := by decide +kernel
theorem dX5_readPage_49 : decode cX5_readPage 49 = .ok (.getfield 12, 3) := by decide +kernel
theorem dX5_readPage_52 : decode cX5_readPage 52 = .ok (.iconst 0, 1) := by decide +kernel
theorem dX5_readPage_53 : decode cX5_readPage 53 = .ok (.putfield 39, 3) := by decide +kernel
theorem dX5_readPage_56 : decode cX5_readPage 56 = .ok (.iload_n 1, 1) := by decide +kernel
theorem dX5_readPage_57 : decode cX5_readPage 57 = .ok (.ifCond .eq 10, 3) := by decide +kernel
theorem dX5_readPage_60 : decode cX5_readPage 60 = .ok (.aload_n 0, 1) := by decide +kernel
theorem dX5_readPage_61 : decode cX5_readPage 61 = .ok (.getfield 32, 3) := by decide +kernel
theorem dX5_readPage_64 : decode cX5_readPage 64 = .ok (.goto 9, 3) := by decide +kernel
theorem dX5_readPage_67 : decode cX5_readPage 67 = .ok (.iconst (-1), 1) := by decide +kernel
theorem dX5_readPage_68 : decode cX5_readPage 68 = .ok (.aload_n 0, 1) := by decide +kernel
theorem dX5_readPage_69 : decode cX5_readPage 69 = .ok (.getfield 29, 3) := by decide +kernel
theorem dX5_readPage_72 : decode cX5_readPage 72 = .ok (.isub, 1) := by decide +kernel
theorem dX5_readPage_73 : decode cX5_readPage 73 = .ok (.ireturn, 1) := by decide +kernel
theorem dX5_handOver_0 : decode cX5_handOver 0 = .ok (.aload_n 0, 1) := by decide +kernel
theorem dX5_handOver_1 : decode cX5_handOver 1 = .ok (.getfield 21, 3) := by decide +kernel
theorem dX5_handOver_4 : decode cX5_handOver 4 = .ok (.astore_n 2, 1) := by decide +kernel
theorem dX5_handOver_5 : decode cX5_handOver 5 = .ok (.aload_n 0, 1) := by decide +kernel
theorem dX5_handOver_6 : decode cX5_handOver 6 = .ok (.aload_n 1, 1) := by decide +kernel
theorem dX5_handOver_7 : decode cX5_handOver 7 = .ok (.putfield 21, 3) := by decide +kernel
theorem dX5_handOver_10 : decode cX5_handOver 10 = .ok (.aload_n 2, 1) := by decide +kernel
theorem dX5_handOver_11 : decode cX5_handOver 11 = .ok (.areturn, 1) := by decide +kernel
theorem dX5_readParts_0 : decode cX5_readParts 0 = .ok (.iconst 0, 1) := by decide +kernel
theorem dX5_readParts_1 : decode cX5_readParts 1 = .ok (.istore 4, 2) := by decide +kernel
theorem dX5_readParts_3 : decode cX5_readParts 3 = .ok (.iload 4, 2) := by decide +kernel
theorem dX5_readParts_5 : decode cX5_readParts 5 = .ok (.sipush 160, 3) := by decide +kernel
theorem dX5_readParts_8 : decode cX5_readParts 8 = .ok (.if_icmp .ge 186, 3) := by decide +kernel
theorem dX5_readParts_11 : decode cX5_readParts 11 = .ok (.aload_n 0, 1) := by decide +kernel
theorem dX5_readParts_12 : decode cX5_readParts 12 = .ok (.getfield 12, 3) := by decide +kernel
theorem dX5_readParts_15 : decode cX5_readParts 15 = .ok (.aload_n 0, 1) := by decide +kernel
theorem dX5_readParts_16 : decode cX5_readParts 16 = .ok (.getfield 29, 3) := by decide +kernel
theorem dX5_readParts_19 : decode cX5_readParts 19 = .ok (.invokevirtual 40, 3) := by decide +kernel
theorem dX5_readParts_22 : decode cX5_readParts 22 = .ok (.istore 5, 2) := by decide +kernel
theorem dX5_readParts_24 : decode cX5_readParts 24 = .ok (.iload 5, 2) := by decide +kernel
theorem dX5_readParts_26 : decode cX5_readParts 26 = .ok (.ifCond .eq 28, 3) := by decide +kernel
theorem dX5_readParts_29 : decode cX5_readParts 29 = .ok (.iload 5, 2) := by decide +kernel
theorem dX5_readParts_31 : decode cX5_readParts 31 = .ok (.bipush 124, 2) := by decide +kernel
theorem dX5_readParts_33 : decode cX5_readParts 33 = .ok (.if_icmp .eq 21, 3) := by decide +kernel
theorem dX5_readParts_36 : decode cX5_readParts 36 = .ok (.iload 5, 2) := by decide +kernel
theorem dX5_readParts_38 : decode cX5_readParts 38 = .ok (.bipush 125, 2) := by decide +kernel
theorem dX5_readParts_40 : decode cX5_readParts 40 = .ok (.if_icmp .eq 14, 3) := by decide +kernel
theorem dX5_readParts_43 : decode cX5_readParts 43 = .ok (.iload_n 3, 1) := by decide +kernel
theorem dX5_readParts_44 : decode cX5_readParts 44 = .ok (.ifCond .eq 12, 3) := by decide +kernel
theorem dX5_readParts_47 : decode cX5_readParts 47 = .ok (.aload_n 0, 1) := by decide +kernel
theorem dX5_readParts_48 : decode cX5_readParts 48 = .ok (.invokevirtual 44, 3) := by decide +kernel
theorem dX5_readParts_51 : decode cX5_readParts 51 = .ok (.ifCond .eq 5, 3) := by decide +kernel
theorem dX5_readParts_54 : decode cX5_readParts 54 = .ok (.iconst 1, 1) := by decide +kernel
theorem dX5_readParts_55 : decode cX5_readParts 55 = .ok (.ireturn, 1) := by decide +kernel
theorem dX5_readParts_56 : decode cX5_readParts 56 = .ok (.aload_n 0, 1) := by decide +kernel
theorem dX5_readParts_57 : decode cX5_readParts 57 = .ok (.dup, 1) := by decide +kernel
theorem dX5_readParts_58 : decode cX5_readParts 58 = .ok (.getfield 29, 3) := by decide +kernel
theorem dX5_readParts_61 : decode cX5_readParts 61 = .ok (.iconst 1, 1) := by decide +kernel
theorem dX5_readParts_62 : decode cX5_readParts 62 = .ok (.iadd, 1) := by decide +kernel
theorem dX5_readParts_63 : decode cX5_readParts 63 = .ok (.putfield 29, 3) := by decide +kernel
theorem dX5_readParts_66 : decode cX5_readParts 66 = .ok (.iconst 1, 1) := by decide +kernel
theorem dX5_readParts_67 : decode cX5_readParts 67 = .ok (.istore 6, 2) := by decide +kernel
theorem dX5_readParts_69 : decode cX5_readParts 69 = .ok (.iload 5, 2) := by decide +kernel
theorem dX5_readParts_71 : decode cX5_readParts 71 = .ok (.bipush 123, 2) := by decide +kernel
theorem dX5_readParts_73 : decode cX5_readParts 73 = .ok (.if_icmp .eq 18, 3) := by decide +kernel
theorem dX5_readParts_76 : decode cX5_readParts 76 = .ok (.aload_n 0, 1) := by decide +kernel
theorem dX5_readParts_77 : decode cX5_readParts 77 = .ok (.getfield 21, 3) := by decide +kernel
theorem dX5_readParts_80 : decode cX5_readParts 80 = .ok (.iconst 0, 1) := by decide +kernel
theorem dX5_readParts_81 : decode cX5_readParts 81 = .ok (.iload 5, 2) := by decide +kernel
theorem dX5_readParts_83 : decode cX5_readParts 83 = .ok (.iconst 0, 1) := by decide +kernel
theorem dX5_readParts_84 : decode cX5_readParts 84 = .ok (.invokevirtual 48, 3) := by decide +kernel
theorem dX5_readParts_87 : decode cX5_readParts 87 = .ok (.pop, 1) := by decide +kernel
theorem dX5_readParts_88 : decode cX5_readParts 88 = .ok (.goto 93, 3) := by decide +kernel
theorem dX5_readParts_91 : decode cX5_readParts 91 = .ok (.aload_n 0, 1) := by decide +kernel
theorem dX5_readParts_92 : decode cX5_readParts 92 = .ok (.getfield 12, 3) := by decide +kernel
theorem dX5_readParts_95 : decode cX5_readParts 95 = .ok (.aload_n 0, 1) := by decide +kernel
theorem dX5_readParts_96 : decode cX5_readParts 96 = .ok (.getfield 29, 3) := by decide +kernel
theorem dX5_readParts_99 : decode cX5_readParts 99 = .ok (.invokevirtual 40, 3) := by decide +kernel
theorem dX5_readParts_102 : decode cX5_readParts 102 = .ok (.bipush 42, 2) := by decide +kernel
theorem dX5_readParts_104 : decode cX5_readParts 104 = .ok (.if_icmp .ne 30, 3) := by decide +kernel
theorem dX5_readParts_107 : decode cX5_readParts 107 = .ok (.iload_n 2, 1) := by decide +kernel
theorem dX5_readParts_108 : decode cX5_readParts 108 = .ok (.ifCond .ne 20, 3) := by decide +kernel
theorem dX5_readParts_111 : decode cX5_readParts 111 = .ok (.iload_n 1, 1) := by decide +kernel
theorem dX5_readParts_112 : decode cX5_readParts 112 = .ok (.iconst 5, 1) := by decide +kernel
theorem dX5_readParts_113 : decode cX5_readParts 113 = .ok (.if_icmp .ge 15, 3) := by decide +kernel
theorem dX5_readParts_116 : decode cX5_readParts 116 = .ok (.aload_n 0, 1) := by decide +kernel
theorem dX5_readParts_117 : decode cX5_readParts 117 = .ok (.iload_n 1, 1) := by decide +kernel
theorem dX5_readParts_118 : decode cX5_readParts 118 = .ok (.invokevirtual 52, 3) := by decide +kernel
theorem dX5_readParts_121 : decode cX5_readParts 121 = .ok (.ifCond .eq 7, 3) := by decide +kernel
theorem dX5_readParts_124 : decode cX5_readParts 124 = .ok (.iconst 1, 1) := by decide +kernel
theorem dX5_readParts_125 : decode cX5_readParts 125 = .ok (.goto 4, 3) := by decide +kernel
theorem dX5_readParts_128 : decode cX5_readParts 128 = .ok (.iconst 0, 1) := by decide +kernel
theorem dX5_readParts_129 : decode cX5_readParts 129 = .ok (.istore 6, 2) := by decide +kernel
theorem dX5_readParts_131 : decode cX5_readParts 131 = .ok (.goto 50, 3) := by decide +kernel
theorem dX5_readParts_134 : decode cX5_readParts 134 = .ok (.aload_n 0, 1) := by decide +kernel
theorem dX5_readParts_135 : decode cX5_readParts 135 = .ok (.getfield 12, 3) := by decide +kernel
theorem dX5_readParts_138 : decode cX5_readParts 138 = .ok (.aload_n 0, 1) := by decide +kernel
theorem dX5_readParts_139 : decode cX5_readParts 139 = .ok (.getfield 29, 3) := by decide +kernel
theorem dX5_readParts_142 : decode cX5_readParts 142 = .ok (.invokevirtual 40, 3) := by decide +kernel
theorem dX5_readParts_145 : decode cX5_readParts 145 = .ok (.bipush 63, 2) := by decide +kernel
theorem dX5_readParts_147 : decode cX5_readParts 147 = .ok (.if_icmp .ne 27, 3) := by decide +kernel
theorem dX5_readParts_150 : decode cX5_readParts 150 = .ok (.iload_n 1, 1) := by decide +kernel
theorem dX5_readParts_151 : decode cX5_readParts 151 = .ok (.iconst 5, 1) := by decide +kernel
theorem dX5_readParts_152 : decode cX5_readParts 152 = .ok (.if_icmp .ge 16, 3) := by decide +kernel
theorem dX5_readParts_155 : decode cX5_readParts 155 = .ok (.aload_n 0, 1) := by decide +kernel
theorem dX5_readParts_156 : decode cX5_readParts 156 = .ok (.iload_n 1, 1) := by decide +kernel
theorem dX5_readParts_157 : decode cX5_readParts 157 = .ok (.iload_n 2, 1) := by decide +kernel
theorem dX5_readParts_158 : decode cX5_readParts 158 = .ok (.invokevirtual 56, 3) := by decide +kernel
theorem dX5_readParts_161 : decode cX5_readParts 161 = .ok (.ifCond .eq 7, 3) := by decide +kernel
theorem dX5_readParts_164 : decode cX5_readParts 164 = .ok (.iconst 1, 1) := by decide +kernel
theorem dX5_readParts_165 : decode cX5_readParts 165 = .ok (.goto 4, 3) := by decide +kernel
theorem dX5_readParts_168 : decode cX5_readParts 168 = .ok (.iconst 0, 1) := by decide +kernel
theorem dX5_readParts_169 : decode cX5_readParts 169 = .ok (.istore 6, 2) := by decide +kernel
theorem dX5_readParts_171 : decode cX5_readParts 171 = .ok (.goto 10, 3) := by decide +kernel
theorem dX5_readParts_174 : decode cX5_readParts 174 = .ok (.aload_n 0, 1) := by decide +kernel
theorem dX5_readParts_175 : decode cX5_readParts 175 = .ok (.iload_n 2, 1) := by decide +kernel
theorem dX5_readParts_176 : decode cX5_readParts 176 = .ok (.invokevirtual 60, 3) := by decide +kernel
theorem dX5_readParts_179 : decode cX5_readParts 179 = .ok (.istore 6, 2) := by decide +kernel
theorem dX5_readParts_181 : decode cX5_readParts 181 = .ok (.iload 6, 2) := by decide +kernel
theorem dX5_readParts_183 : decode cX5_readParts 183 = .ok (.ifCond .ne 5, 3) := by decide +kernel
theorem dX5_readParts_186 : decode cX5_readParts 186 = .ok (.iconst 0, 1) := by decide +kernel
theorem dX5_readParts_187 : decode cX5_readParts 187 = .ok (.ireturn, 1) := by decide +kernel
theorem dX5_readParts_188 : decode cX5_readParts 188 = .ok (.iinc 4 1, 3) := by decide +kernel
theorem dX5_readParts_191 : decode cX5_readParts 191 = .ok (.goto (-188), 3) := by decide +kernel
theorem dX5_readParts_194 : decode cX5_readParts 194 = .ok (.iconst 1, 1) := by decide +kernel
theorem dX5_readParts_195 : decode cX5_readParts 195 = .ok (.ireturn, 1) := by decide +kernel
theorem dX5_endsLoop_0 : decode cX5_endsLoop 0 = .ok (.aload_n 0, 1) := by decide +kernel
theorem dX5_endsLoop_1 : decode cX5_endsLoop 1 = .ok (.getfield 12, 3) := by decide +kernel
theorem dX5_endsLoop_4 : decode cX5_endsLoop 4 = .ok (.aload_n 0, 1) := by decide +kernel
theorem dX5_endsLoop_5 : decode cX5_endsLoop 5 = .ok (.getfield 29, 3) := by decide +kernel
theorem dX5_endsLoop_8 : decode cX5_endsLoop 8 = .ok (.invokevirtual 40, 3) := by decide +kernel
theorem dX5_endsLoop_11 : decode cX5_endsLoop 11 = .ok (.bipush 42, 2) := by decide +kernel
theorem dX5_endsLoop_13 : decode cX5_endsLoop 13 = .ok (.if_icmp .ne 25, 3) := by decide +kernel
theorem dX5_endsLoop_16 : decode cX5_endsLoop 16 = .ok (.aload_n 0, 1) := by decide +kernel
theorem dX5_endsLoop_17 : decode cX5_endsLoop 17 = .ok (.getfield 12, 3) := by decide +kernel
theorem dX5_endsLoop_20 : decode cX5_endsLoop 20 = .ok (.aload_n 0, 1) := by decide +kernel
theorem dX5_endsLoop_21 : decode cX5_endsLoop 21 = .ok (.getfield 29, 3) := by decide +kernel
theorem dX5_endsLoop_24 : decode cX5_endsLoop 24 = .ok (.iconst 1, 1) := by decide +kernel
theorem dX5_endsLoop_25 : decode cX5_endsLoop 25 = .ok (.iadd, 1) := by decide +kernel
theorem dX5_endsLoop_26 : decode cX5_endsLoop 26 = .ok (.invokevirtual 40, 3) := by decide +kernel
theorem dX5_endsLoop_29 : decode cX5_endsLoop 29 = .ok (.bipush 125, 2) := by decide +kernel
theorem dX5_endsLoop_31 : decode cX5_endsLoop 31 = .ok (.if_icmp .ne 7, 3) := by decide +kernel
theorem dX5_endsLoop_34 : decode cX5_endsLoop 34 = .ok (.iconst 1, 1) := by decide +kernel
theorem dX5_endsLoop_35 : decode cX5_endsLoop 35 = .ok (.goto 4, 3) := by decide +kernel
theorem dX5_endsLoop_38 : decode cX5_endsLoop 38 = .ok (.iconst 0, 1) := by decide +kernel
theorem dX5_endsLoop_39 : decode cX5_endsLoop 39 = .ok (.ireturn, 1) := by decide +kernel
theorem dX5_readLoop_0 : decode cX5_readLoop 0 = .ok (.aload_n 0, 1) := by decide +kernel
theorem dX5_readLoop_1 : decode cX5_readLoop 1 = .ok (.dup, 1) := by decide +kernel
theorem dX5_readLoop_2 : decode cX5_readLoop 2 = .ok (.getfield 29, 3) := by decide +kernel
theorem dX5_readLoop_5 : decode cX5_readLoop 5 = .ok (.iconst 1, 1) := by decide +kernel
theorem dX5_readLoop_6 : decode cX5_readLoop 6 = .ok (.iadd, 1) := by decide +kernel
theorem dX5_readLoop_7 : decode cX5_readLoop 7 = .ok (.putfield 29, 3) := by decide +kernel
theorem dX5_readLoop_10 : decode cX5_readLoop 10 = .ok (.aload_n 0, 1) := by decide +kernel
theorem dX5_readLoop_11 : decode cX5_readLoop 11 = .ok (.dup, 1) := by decide +kernel
theorem dX5_readLoop_12 : decode cX5_readLoop 12 = .ok (.getfield 32, 3) := by decide +kernel
theorem dX5_readLoop_15 : decode cX5_readLoop 15 = .ok (.iconst 1, 1) := by decide +kernel
theorem dX5_readLoop_16 : decode cX5_readLoop 16 = .ok (.iadd, 1) := by decide +kernel
theorem dX5_readLoop_17 : decode cX5_readLoop 17 = .ok (.putfield 32, 3) := by decide +kernel
theorem dX5_readLoop_20 : decode cX5_readLoop 20 = .ok (.aload_n 0, 1) := by decide +kernel
theorem dX5_readLoop_21 : decode cX5_readLoop 21 = .ok (.getfield 21, 3) := by decide +kernel
theorem dX5_readLoop_24 : decode cX5_readLoop 24 = .ok (.bipush 7, 2) := by decide +kernel
theorem dX5_readLoop_26 : decode cX5_readLoop 26 = .ok (.iconst 0, 1) := by decide +kernel
theorem dX5_readLoop_27 : decode cX5_readLoop 27 = .ok (.iconst 0, 1) := by decide +kernel
theorem dX5_readLoop_28 : decode cX5_readLoop 28 = .ok (.invokevirtual 48, 3) := by decide +kernel
theorem dX5_readLoop_31 : decode cX5_readLoop 31 = .ok (.istore_n 2, 1) := by decide +kernel
theorem dX5_readLoop_32 : decode cX5_readLoop 32 = .ok (.aload_n 0, 1) := by decide +kernel
theorem dX5_readLoop_33 : decode cX5_readLoop 33 = .ok (.iload_n 1, 1) := by decide +kernel
theorem dX5_readLoop_34 : decode cX5_readLoop 34 = .ok (.iconst 1, 1) := by decide +kernel
theorem dX5_readLoop_35 : decode cX5_readLoop 35 = .ok (.iadd, 1) := by decide +kernel
theorem dX5_readLoop_36 : decode cX5_readLoop 36 = .ok (.iconst 1, 1) := by decide +kernel
theorem dX5_readLoop_37 : decode cX5_readLoop 37 = .ok (.iconst 1, 1) := by decide +kernel
theorem dX5_readLoop_38 : decode cX5_readLoop 38 = .ok (.invokevirtual 35, 3) := by decide +kernel
theorem dX5_readLoop_41 : decode cX5_readLoop 41 = .ok (.ifCond .eq 10, 3) := by decide +kernel
theorem dX5_readLoop_44 : decode cX5_readLoop 44 = .ok (.aload_n 0, 1) := by decide +kernel
theorem dX5_readLoop_45 : decode cX5_readLoop 45 = .ok (.invokevirtual 44, 3) := by decide +kernel
theorem dX5_readLoop_48 : decode cX5_readLoop 48 = .ok (.ifCond .ne 5, 3) := by decide +kernel
theorem dX5_readLoop_51 : decode cX5_readLoop 51 = .ok (.iconst 0, 1) := by decide +kernel
theorem dX5_readLoop_52 : decode cX5_readLoop 52 = .ok (.ireturn, 1) := by decide +kernel
theorem dX5_readLoop_53 : decode cX5_readLoop 53 = .ok (.aload_n 0, 1) := by decide +kernel
theorem dX5_readLoop_54 : decode cX5_readLoop 54 = .ok (.dup, 1) := by decide +kernel
theorem dX5_readLoop_55 : decode cX5_readLoop 55 = .ok (.getfield 29, 3) := by decide +kernel
theorem dX5_readLoop_58 : decode cX5_readLoop 58 = .ok (.iconst 2, 1) := by decide +kernel
theorem dX5_readLoop_59 : decode cX5_readLoop 59 = .ok (.iadd, 1) := by decide +kernel
theorem dX5_readLoop_60 : decode cX5_readLoop 60 = .ok (.putfield 29, 3) := by decide +kernel
theorem dX5_readLoop_63 : decode cX5_readLoop 63 = .ok (.aload_n 0, 1) := by decide +kernel
theorem dX5_readLoop_64 : decode cX5_readLoop 64 = .ok (.getfield 21, 3) := by decide +kernel
theorem dX5_readLoop_67 : decode cX5_readLoop 67 = .ok (.bipush 8, 2) := by decide +kernel
theorem dX5_readLoop_69 : decode cX5_readLoop 69 = .ok (.iconst 0, 1) := by decide +kernel
theorem dX5_readLoop_70 : decode cX5_readLoop 70 = .ok (.iload_n 2, 1) := by decide +kernel
theorem dX5_readLoop_71 : decode cX5_readLoop 71 = .ok (.iconst 1, 1) := by decide +kernel
theorem dX5_readLoop_72 : decode cX5_readLoop 72 = .ok (.iadd, 1) := by decide +kernel
theorem dX5_readLoop_73 : decode cX5_readLoop 73 = .ok (.invokevirtual 48, 3) := by decide +kernel
theorem dX5_readLoop_76 : decode cX5_readLoop 76 = .ok (.pop, 1) := by decide +kernel
theorem dX5_readLoop_77 : decode cX5_readLoop 77 = .ok (.iconst 1, 1) := by decide +kernel
theorem dX5_readLoop_78 : decode cX5_readLoop 78 = .ok (.ireturn, 1) := by decide +kernel
theorem dX5_readChoice_0 : decode cX5_readChoice 0 = .ok (.aload_n 0, 1) := by decide +kernel
theorem dX5_readChoice_1 : decode cX5_readChoice 1 = .ok (.dup, 1) := by decide +kernel
theorem dX5_readChoice_2 : decode cX5_readChoice 2 = .ok (.getfield 29, 3) := by decide +kernel
theorem dX5_readChoice_5 : decode cX5_readChoice 5 = .ok (.iconst 1, 1) := by decide +kernel
theorem dX5_readChoice_6 : decode cX5_readChoice 6 = .ok (.iadd, 1) := by decide +kernel
theorem dX5_readChoice_7 : decode cX5_readChoice 7 = .ok (.putfield 29, 3) := by decide +kernel
theorem dX5_readChoice_10 : decode cX5_readChoice 10 = .ok (.aload_n 0, 1) := by decide +kernel
theorem dX5_readChoice_11 : decode cX5_readChoice 11 = .ok (.dup, 1) := by decide +kernel
theorem dX5_readChoice_12 : decode cX5_readChoice 12 = .ok (.getfield 32, 3) := by decide +kernel
theorem dX5_readChoice_15 : decode cX5_readChoice 15 = .ok (.iconst 1, 1) := by decide +kernel
theorem dX5_readChoice_16 : decode cX5_readChoice 16 = .ok (.iadd, 1) := by decide +kernel
theorem dX5_readChoice_17 : decode cX5_readChoice 17 = .ok (.putfield 32, 3) := by decide +kernel
theorem dX5_readChoice_20 : decode cX5_readChoice 20 = .ok (.aload_n 0, 1) := by decide +kernel
theorem dX5_readChoice_21 : decode cX5_readChoice 21 = .ok (.iload_n 2, 1) := by decide +kernel
theorem dX5_readChoice_22 : decode cX5_readChoice 22 = .ok (.invokevirtual 64, 3) := by decide +kernel
theorem dX5_readChoice_25 : decode cX5_readChoice 25 = .ok (.ifCond .ne 5, 3) := by decide +kernel
theorem dX5_readChoice_28 : decode cX5_readChoice 28 = .ok (.iconst 0, 1) := by decide +kernel
theorem dX5_readChoice_29 : decode cX5_readChoice 29 = .ok (.ireturn, 1) := by decide +kernel
theorem dX5_readChoice_30 : decode cX5_readChoice 30 = .ok (.aload_n 0, 1) := by decide +kernel
theorem dX5_readChoice_31 : decode cX5_readChoice 31 = .ok (.getfield 12, 3) := by decide +kernel
theorem dX5_readChoice_34 : decode cX5_readChoice 34 = .ok (.aload_n 0, 1) := by decide +kernel
theorem dX5_readChoice_35 : decode cX5_readChoice 35 = .ok (.getfield 29, 3) := by decide +kernel
theorem dX5_readChoice_38 : decode cX5_readChoice 38 = .ok (.invokevirtual 40, 3) := by decide +kernel
theorem dX5_readChoice_41 : decode cX5_readChoice 41 = .ok (.istore_n 3, 1) := by decide +kernel
theorem dX5_readChoice_42 : decode cX5_readChoice 42 = .ok (.aload_n 0, 1) := by decide +kernel
theorem dX5_readChoice_43 : decode cX5_readChoice 43 = .ok (.bipush 60, 2) := by decide +kernel
theorem dX5_readChoice_45 : decode cX5_readChoice 45 = .ok (.invokevirtual 67, 3) := by decide +kernel
theorem dX5_readChoice_48 : decode cX5_readChoice 48 = .ok (.ifCond .ne 23, 3) := by decide +kernel
theorem dX5_readChoice_51 : decode cX5_readChoice 51 = .ok (.aload_n 0, 1) := by decide +kernel
theorem dX5_readChoice_52 : decode cX5_readChoice 52 = .ok (.bipush 62, 2) := by decide +kernel
theorem dX5_readChoice_54 : decode cX5_readChoice 54 = .ok (.invokevirtual 67, 3) := by decide +kernel
theorem dX5_readChoice_57 : decode cX5_readChoice 57 = .ok (.ifCond .ne 14, 3) := by decide +kernel
theorem dX5_readChoice_60 : decode cX5_readChoice 60 = .ok (.aload_n 0, 1) := by decide +kernel
theorem dX5_readChoice_61 : decode cX5_readChoice 61 = .ok (.bipush 61, 2) := by decide +kernel
theorem dX5_readChoice_63 : decode cX5_readChoice 63 = .ok (.invokevirtual 67, 3) := by decide +kernel
theorem dX5_readChoice_66 : decode cX5_readChoice 66 = .ok (.ifCond .ne 5, 3) := by decide +kernel
theorem dX5_readChoice_69 : decode cX5_readChoice 69 = .ok (.iconst 0, 1) := by decide +kernel
theorem dX5_readChoice_70 : decode cX5_readChoice 70 = .ok (.ireturn, 1) := by decide +kernel
theorem dX5_readChoice_71 : decode cX5_readChoice 71 = .ok (.aload_n 0, 1) := by decide +kernel
theorem dX5_readChoice_72 : decode cX5_readChoice 72 = .ok (.getfield 21, 3) := by decide +kernel
theorem dX5_readChoice_75 : decode cX5_readChoice 75 = .ok (.iconst 4, 1) := by decide +kernel
theorem dX5_readChoice_76 : decode cX5_readChoice 76 = .ok (.iconst 0, 1) := by decide +kernel
theorem dX5_readChoice_77 : decode cX5_readChoice 77 = .ok (.iconst 0, 1) := by decide +kernel
theorem dX5_readChoice_78 : decode cX5_readChoice 78 = .ok (.invokevirtual 48, 3) := by decide +kernel
theorem dX5_readChoice_81 : decode cX5_readChoice 81 = .ok (.pop, 1) := by decide +kernel
theorem dX5_readChoice_82 : decode cX5_readChoice 82 = .ok (.aload_n 0, 1) := by decide +kernel
theorem dX5_readChoice_83 : decode cX5_readChoice 83 = .ok (.iload_n 2, 1) := by decide +kernel
theorem dX5_readChoice_84 : decode cX5_readChoice 84 = .ok (.invokevirtual 64, 3) := by decide +kernel
theorem dX5_readChoice_87 : decode cX5_readChoice 87 = .ok (.ifCond .eq 12, 3) := by decide +kernel
theorem dX5_readChoice_90 : decode cX5_readChoice 90 = .ok (.aload_n 0, 1) := by decide +kernel
theorem dX5_readChoice_91 : decode cX5_readChoice 91 = .ok (.bipush 58, 2) := by decide +kernel
theorem dX5_readChoice_93 : decode cX5_readChoice 93 = .ok (.invokevirtual 67, 3) := by decide +kernel
theorem dX5_readChoice_96 : decode cX5_readChoice 96 = .ok (.ifCond .ne 5, 3) := by decide +kernel
theorem dX5_readChoice_99 : decode cX5_readChoice 99 = .ok (.iconst 0, 1) := by decide +kernel
theorem dX5_readChoice_100 : decode cX5_readChoice 100 = .ok (.ireturn, 1) := by decide +kernel
theorem dX5_readChoice_101 : decode cX5_readChoice 101 = .ok (.aload_n 0, 1) := by decide +kernel
theorem dX5_readChoice_102 : decode cX5_readChoice 102 = .ok (.getfield 21, 3) := by decide +kernel
theorem dX5_readChoice_105 : decode cX5_readChoice 105 = .ok (.iconst 5, 1) := by decide +kernel
theorem dX5_readChoice_106 : decode cX5_readChoice 106 = .ok (.iload_n 3, 1) := by decide +kernel
theorem dX5_readChoice_107 : decode cX5_readChoice 107 = .ok (.iconst 0, 1) := by decide +kernel
theorem dX5_readChoice_108 : decode cX5_readChoice 108 = .ok (.invokevirtual 48, 3) := by decide +kernel
theorem dX5_readChoice_111 : decode cX5_readChoice 111 = .ok (.istore 4, 2) := by decide +kernel
theorem dX5_readChoice_113 : decode cX5_readChoice 113 = .ok (.aload_n 0, 1) := by decide +kernel
theorem dX5_readChoice_114 : decode cX5_readChoice 114 = .ok (.iload_n 1, 1) := by decide +kernel
theorem dX5_readChoice_115 : decode cX5_readChoice 115 = .ok (.iconst 1, 1) := by decide +kernel
theorem dX5_readChoice_116 : decode cX5_readChoice 116 = .ok (.iadd, 1) := by decide +kernel
theorem dX5_readChoice_117 : decode cX5_readChoice 117 = .ok (.iload_n 2, 1) := by decide +kernel
theorem dX5_readChoice_118 : decode cX5_readChoice 118 = .ok (.iconst 0, 1) := by decide +kernel
theorem dX5_readChoice_119 : decode cX5_readChoice 119 = .ok (.invokevirtual 35, 3) := by decide +kernel
theorem dX5_readChoice_122 : decode cX5_readChoice 122 = .ok (.ifCond .ne 5, 3) := by decide +kernel
theorem dX5_readChoice_125 : decode cX5_readChoice 125 = .ok (.iconst 0, 1) := by decide +kernel
theorem dX5_readChoice_126 : decode cX5_readChoice 126 = .ok (.ireturn, 1) := by decide +kernel
theorem dX5_readChoice_127 : decode cX5_readChoice 127 = .ok (.aload_n 0, 1) := by decide +kernel
theorem dX5_readChoice_128 : decode cX5_readChoice 128 = .ok (.bipush 124, 2) := by decide +kernel
theorem dX5_readChoice_130 : decode cX5_readChoice 130 = .ok (.invokevirtual 67, 3) := by decide +kernel
theorem dX5_readChoice_133 : decode cX5_readChoice 133 = .ok (.ifCond .ne 19, 3) := by decide +kernel
theorem dX5_readChoice_136 : decode cX5_readChoice 136 = .ok (.aload_n 0, 1) := by decide +kernel
theorem dX5_readChoice_137 : decode cX5_readChoice 137 = .ok (.getfield 21, 3) := by decide +kernel
theorem dX5_readChoice_140 : decode cX5_readChoice 140 = .ok (.iload 4, 2) := by decide +kernel
theorem dX5_readChoice_142 : decode cX5_readChoice 142 = .ok (.invokevirtual 71, 3) := by decide +kernel
theorem dX5_readChoice_145 : decode cX5_readChoice 145 = .ok (.aload_n 0, 1) := by decide +kernel
theorem dX5_readChoice_146 : decode cX5_readChoice 146 = .ok (.bipush 125, 2) := by decide +kernel
theorem dX5_readChoice_148 : decode cX5_readChoice 148 = .ok (.invokevirtual 67, 3) := by decide +kernel
theorem dX5_readChoice_151 : decode cX5_readChoice 151 = .ok (.ireturn, 1) := by decide +kernel
theorem dX5_readChoice_152 : decode cX5_readChoice 152 = .ok (.aload_n 0, 1) := by decide +kernel
theorem dX5_readChoice_153 : decode cX5_readChoice 153 = .ok (.getfield 21, 3) := by decide +kernel
theorem dX5_readChoice_156 : decode cX5_readChoice 156 = .ok (.bipush 6, 2) := by decide +kernel
theorem dX5_readChoice_158 : decode cX5_readChoice 158 = .ok (.iconst 0, 1) := by decide +kernel
theorem dX5_readChoice_159 : decode cX5_readChoice 159 = .ok (.iconst 0, 1) := by decide +kernel
theorem dX5_readChoice_160 : decode cX5_readChoice 160 = .ok (.invokevirtual 48, 3) := by decide +kernel
theorem dX5_readChoice_163 : decode cX5_readChoice 163 = .ok (.istore 5, 2) := by decide +kernel
theorem dX5_readChoice_165 : decode cX5_readChoice 165 = .ok (.aload_n 0, 1) := by decide +kernel
theorem dX5_readChoice_166 : decode cX5_readChoice 166 = .ok (.getfield 21, 3) := by decide +kernel
theorem dX5_readChoice_169 : decode cX5_readChoice 169 = .ok (.iload 4, 2) := by decide +kernel
theorem dX5_readChoice_171 : decode cX5_readChoice 171 = .ok (.invokevirtual 71, 3) := by decide +kernel
theorem dX5_readChoice_174 : decode cX5_readChoice 174 = .ok (.aload_n 0, 1) := by decide +kernel
theorem dX5_readChoice_175 : decode cX5_readChoice 175 = .ok (.iload_n 1, 1) := by decide +kernel
theorem dX5_readChoice_176 : decode cX5_readChoice 176 = .ok (.iconst 1, 1) := by decide +kernel
theorem dX5_readChoice_177 : decode cX5_readChoice 177 = .ok (.iadd, 1) := by decide +kernel
theorem dX5_readChoice_178 : decode cX5_readChoice 178 = .ok (.iload_n 2, 1) := by decide +kernel
theorem dX5_readChoice_179 : decode cX5_readChoice 179 = .ok (.iconst 0, 1) := by decide +kernel
theorem dX5_readChoice_180 : decode cX5_readChoice 180 = .ok (.invokevirtual 35, 3) := by decide +kernel
theorem dX5_readChoice_183 : decode cX5_readChoice 183 = .ok (.ifCond .ne 5, 3) := by decide +kernel
theorem dX5_readChoice_186 : decode cX5_readChoice 186 = .ok (.iconst 0, 1) := by decide +kernel
theorem dX5_readChoice_187 : decode cX5_readChoice 187 = .ok (.ireturn, 1) := by decide +kernel
theorem dX5_readChoice_188 : decode cX5_readChoice 188 = .ok (.aload_n 0, 1) := by decide +kernel
theorem dX5_readChoice_189 : decode cX5_readChoice 189 = .ok (.getfield 21, 3) := by decide +kernel
theorem dX5_readChoice_192 : decode cX5_readChoice 192 = .ok (.iload 5, 2) := by decide +kernel
theorem dX5_readChoice_194 : decode cX5_readChoice 194 = .ok (.invokevirtual 71, 3) := by decide +kernel
theorem dX5_readChoice_197 : decode cX5_readChoice 197 = .ok (.aload_n 0, 1) := by decide +kernel
theorem dX5_readChoice_198 : decode cX5_readChoice 198 = .ok (.bipush 125, 2) := by decide +kernel
theorem dX5_readChoice_200 : decode cX5_readChoice 200 = .ok (.invokevirtual 67, 3) := by decide +kernel
theorem dX5_readChoice_203 : decode cX5_readChoice 203 = .ok (.ireturn, 1) := by decide +kernel
theorem dX5_readField_0 : decode cX5_readField 0 = .ok (.aload_n 0, 1) := by decide +kernel
theorem dX5_readField_1 : decode cX5_readField 1 = .ok (.getfield 12, 3) := by decide +kernel
theorem dX5_readField_4 : decode cX5_readField 4 = .ok (.aload_n 0, 1) := by decide +kernel
theorem dX5_readField_5 : decode cX5_readField 5 = .ok (.getfield 29, 3) := by decide +kernel
theorem dX5_readField_8 : decode cX5_readField 8 = .ok (.invokevirtual 40, 3) := by decide +kernel
theorem dX5_readField_11 : decode cX5_readField 11 = .ok (.istore_n 2, 1) := by decide +kernel
theorem dX5_readField_12 : decode cX5_readField 12 = .ok (.iload_n 2, 1) := by decide +kernel
theorem dX5_readField_13 : decode cX5_readField 13 = .ok (.iload_n 1, 1) := by decide +kernel
theorem dX5_readField_14 : decode cX5_readField 14 = .ok (.invokestatic 75, 3) := by decide +kernel
theorem dX5_readField_17 : decode cX5_readField 17 = .ok (.ifCond .ne 5, 3) := by decide +kernel
theorem dX5_readField_20 : decode cX5_readField 20 = .ok (.iconst 0, 1) := by decide +kernel
theorem dX5_readField_21 : decode cX5_readField 21 = .ok (.ireturn, 1) := by decide +kernel
theorem dX5_readField_22 : decode cX5_readField 22 = .ok (.aload_n 0, 1) := by decide +kernel
theorem dX5_readField_23 : decode cX5_readField 23 = .ok (.dup, 1) := by decide +kernel
theorem dX5_readField_24 : decode cX5_readField 24 = .ok (.getfield 29, 3) := by decide +kernel
theorem dX5_readField_27 : decode cX5_readField 27 = .ok (.iconst 1, 1) := by decide +kernel
theorem dX5_readField_28 : decode cX5_readField 28 = .ok (.iadd, 1) := by decide +kernel
theorem dX5_readField_29 : decode cX5_readField 29 = .ok (.putfield 29, 3) := by decide +kernel
theorem dX5_readField_32 : decode cX5_readField 32 = .ok (.aload_n 0, 1) := by decide +kernel
theorem dX5_readField_33 : decode cX5_readField 33 = .ok (.dup, 1) := by decide +kernel
theorem dX5_readField_34 : decode cX5_readField 34 = .ok (.getfield 32, 3) := by decide +kernel
theorem dX5_readField_37 : decode cX5_readField 37 = .ok (.iconst 1, 1) := by decide +kernel
theorem dX5_readField_38 : decode cX5_readField 38 = .ok (.iadd, 1) := by decide +kernel
theorem dX5_readField_39 : decode cX5_readField 39 = .ok (.putfield 32, 3) := by decide +kernel
theorem dX5_readField_42 : decode cX5_readField 42 = .ok (.iconst 0, 1) := by decide +kernel
theorem dX5_readField_43 : decode cX5_readField 43 = .ok (.istore_n 3, 1) := by decide +kernel
theorem dX5_readField_44 : decode cX5_readField 44 = .ok (.aload_n 0, 1) := by decide +kernel
theorem dX5_readField_45 : decode cX5_readField 45 = .ok (.getfield 12, 3) := by decide +kernel
theorem dX5_readField_48 : decode cX5_readField 48 = .ok (.aload_n 0, 1) := by decide +kernel
theorem dX5_readField_49 : decode cX5_readField 49 = .ok (.getfield 29, 3) := by decide +kernel
theorem dX5_readField_52 : decode cX5_readField 52 = .ok (.invokevirtual 40, 3) := by decide +kernel
theorem dX5_readField_55 : decode cX5_readField 55 = .ok (.istore 4, 2) := by decide +kernel
theorem dX5_readField_57 : decode cX5_readField 57 = .ok (.iload 4, 2) := by decide +kernel
theorem dX5_readField_59 : decode cX5_readField 59 = .ok (.bipush 49, 2) := by decide +kernel
theorem dX5_readField_61 : decode cX5_readField 61 = .ok (.if_icmp .lt 26, 3) := by decide +kernel
theorem dX5_readField_64 : decode cX5_readField 64 = .ok (.iload 4, 2) := by decide +kernel
theorem dX5_readField_66 : decode cX5_readField 66 = .ok (.bipush 57, 2) := by decide +kernel
theorem dX5_readField_68 : decode cX5_readField 68 = .ok (.if_icmp .gt 19, 3) := by decide +kernel
theorem dX5_readField_71 : decode cX5_readField 71 = .ok (.iload 4, 2) := by decide +kernel
theorem dX5_readField_73 : decode cX5_readField 73 = .ok (.bipush 48, 2) := by decide +kernel
theorem dX5_readField_75 : decode cX5_readField 75 = .ok (.isub, 1) := by decide +kernel
theorem dX5_readField_76 : decode cX5_readField 76 = .ok (.istore_n 3, 1) := by decide +kernel
theorem dX5_readField_77 : decode cX5_readField 77 = .ok (.aload_n 0, 1) := by decide +kernel
theorem dX5_readField_78 : decode cX5_readField 78 = .ok (.dup, 1) := by decide +kernel
theorem dX5_readField_79 : decode cX5_readField 79 = .ok (.getfield 29, 3) := by decide +kernel
theorem dX5_readField_82 : decode cX5_readField 82 = .ok (.iconst 1, 1) := by decide +kernel
theorem dX5_readField_83 : decode cX5_readField 83 = .ok (.iadd, 1) := by decide +kernel
theorem dX5_readField_84 : decode cX5_readField 84 = .ok (.putfield 29, 3) := by decide +kernel
theorem dX5_readField_87 : decode cX5_readField 87 = .ok (.aload_n 0, 1) := by decide +kernel
theorem dX5_readField_88 : decode cX5_readField 88 = .ok (.getfield 21, 3) := by decide +kernel
theorem dX5_readField_91 : decode cX5_readField 91 = .ok (.iconst 1, 1) := by decide +kernel
theorem dX5_readField_92 : decode cX5_readField 92 = .ok (.iload_n 2, 1) := by decide +kernel
theorem dX5_readField_93 : decode cX5_readField 93 = .ok (.iload_n 3, 1) := by decide +kernel
theorem dX5_readField_94 : decode cX5_readField 94 = .ok (.invokevirtual 48, 3) := by decide +kernel
theorem dX5_readField_97 : decode cX5_readField 97 = .ok (.pop, 1) := by decide +kernel
theorem dX5_readField_98 : decode cX5_readField 98 = .ok (.aload_n 0, 1) := by decide +kernel
theorem dX5_readField_99 : decode cX5_readField 99 = .ok (.bipush 125, 2) := by decide +kernel
theorem dX5_readField_101 : decode cX5_readField 101 = .ok (.invokevirtual 67, 3) := by decide +kernel
theorem dX5_readField_104 : decode cX5_readField 104 = .ok (.ireturn, 1) := by decide +kernel
theorem dX5_readSum_0 : decode cX5_readSum 0 = .ok (.aload_n 0, 1) := by decide +kernel
theorem dX5_readSum_1 : decode cX5_readSum 1 = .ok (.iconst 2, 1) := by decide +kernel
theorem dX5_readSum_2 : decode cX5_readSum 2 = .ok (.iload_n 1, 1) := by decide +kernel
theorem dX5_readSum_3 : decode cX5_readSum 3 = .ok (.invokevirtual 79, 3) := by decide +kernel
theorem dX5_readSum_6 : decode cX5_readSum 6 = .ok (.ifCond .ne 5, 3) := by decide +kernel
theorem dX5_readSum_9 : decode cX5_readSum 9 = .ok (.iconst 0, 1) := by decide +kernel
theorem dX5_readSum_10 : decode cX5_readSum 10 = .ok (.ireturn, 1) := by decide +kernel
theorem dX5_readSum_11 : decode cX5_readSum 11 = .ok (.iconst 0, 1) := by decide +kernel
theorem dX5_readSum_12 : decode cX5_readSum 12 = .ok (.istore_n 2, 1) := by decide +kernel
theorem dX5_readSum_13 : decode cX5_readSum 13 = .ok (.iload_n 2, 1) := by decide +kernel
theorem dX5_readSum_14 : decode cX5_readSum 14 = .ok (.sipush 160, 3) := by decide +kernel
theorem dX5_readSum_17 : decode cX5_readSum 17 = .ok (.if_icmp .ge 50, 3) := by decide +kernel
theorem dX5_readSum_20 : decode cX5_readSum 20 = .ok (.aload_n 0, 1) := by decide +kernel
theorem dX5_readSum_21 : decode cX5_readSum 21 = .ok (.bipush 43, 2) := by decide +kernel
theorem dX5_readSum_23 : decode cX5_readSum 23 = .ok (.invokevirtual 67, 3) := by decide +kernel
theorem dX5_readSum_26 : decode cX5_readSum 26 = .ok (.istore_n 3, 1) := by decide +kernel
theorem dX5_readSum_27 : decode cX5_readSum 27 = .ok (.iload_n 3, 1) := by decide +kernel
theorem dX5_readSum_28 : decode cX5_readSum 28 = .ok (.ifCond .ne 14, 3) := by decide +kernel
theorem dX5_readSum_31 : decode cX5_readSum 31 = .ok (.aload_n 0, 1) := by decide +kernel
theorem dX5_readSum_32 : decode cX5_readSum 32 = .ok (.bipush 45, 2) := by decide +kernel
theorem dX5_readSum_34 : decode cX5_readSum 34 = .ok (.invokevirtual 67, 3) := by decide +kernel
theorem dX5_readSum_37 : decode cX5_readSum 37 = .ok (.ifCond .ne 5, 3) := by decide +kernel
theorem dX5_readSum_40 : decode cX5_readSum 40 = .ok (.iconst 1, 1) := by decide +kernel
theorem dX5_readSum_41 : decode cX5_readSum 41 = .ok (.ireturn, 1) := by decide +kernel
theorem dX5_readSum_42 : decode cX5_readSum 42 = .ok (.aload_n 0, 1) := by decide +kernel
theorem dX5_readSum_43 : decode cX5_readSum 43 = .ok (.iload_n 3, 1) := by decide +kernel
theorem dX5_readSum_44 : decode cX5_readSum 44 = .ok (.ifCond .eq 7, 3) := by decide +kernel
theorem dX5_readSum_47 : decode cX5_readSum 47 = .ok (.iconst 2, 1) := by decide +kernel
theorem dX5_readSum_48 : decode cX5_readSum 48 = .ok (.goto 4, 3) := by decide +kernel
theorem dX5_readSum_51 : decode cX5_readSum 51 = .ok (.iconst 3, 1) := by decide +kernel
theorem dX5_readSum_52 : decode cX5_readSum 52 = .ok (.iload_n 1, 1) := by decide +kernel
theorem dX5_readSum_53 : decode cX5_readSum 53 = .ok (.invokevirtual 79, 3) := by decide +kernel
theorem dX5_readSum_56 : decode cX5_readSum 56 = .ok (.ifCond .ne 5, 3) := by decide +kernel
theorem dX5_readSum_59 : decode cX5_readSum 59 = .ok (.iconst 0, 1) := by decide +kernel
theorem dX5_readSum_60 : decode cX5_readSum 60 = .ok (.ireturn, 1) := by decide +kernel
theorem dX5_readSum_61 : decode cX5_readSum 61 = .ok (.iinc 2 1, 3) := by decide +kernel
theorem dX5_readSum_64 : decode cX5_readSum 64 = .ok (.goto (-51), 3) := by decide +kernel
theorem dX5_readSum_67 : decode cX5_readSum 67 = .ok (.iconst 1, 1) := by decide +kernel
theorem dX5_readSum_68 : decode cX5_readSum 68 = .ok (.ireturn, 1) := by decide +kernel
theorem dX5_readTerm_0 : decode cX5_readTerm 0 = .ok (.aload_n 0, 1) := by decide +kernel
theorem dX5_readTerm_1 : decode cX5_readTerm 1 = .ok (.getfield 12, 3) := by decide +kernel
theorem dX5_readTerm_4 : decode cX5_readTerm 4 = .ok (.aload_n 0, 1) := by decide +kernel
theorem dX5_readTerm_5 : decode cX5_readTerm 5 = .ok (.getfield 29, 3) := by decide +kernel
theorem dX5_readTerm_8 : decode cX5_readTerm 8 = .ok (.invokevirtual 40, 3) := by decide +kernel
theorem dX5_readTerm_11 : decode cX5_readTerm 11 = .ok (.istore_n 3, 1) := by decide +kernel
theorem dX5_readTerm_12 : decode cX5_readTerm 12 = .ok (.iload_n 3, 1) := by decide +kernel
theorem dX5_readTerm_13 : decode cX5_readTerm 13 = .ok (.iload_n 2, 1) := by decide +kernel
theorem dX5_readTerm_14 : decode cX5_readTerm 14 = .ok (.invokestatic 75, 3) := by decide +kernel
theorem dX5_readTerm_17 : decode cX5_readTerm 17 = .ok (.ifCond .eq 26, 3) := by decide +kernel
theorem dX5_readTerm_20 : decode cX5_readTerm 20 = .ok (.aload_n 0, 1) := by decide +kernel
theorem dX5_readTerm_21 : decode cX5_readTerm 21 = .ok (.dup, 1) := by decide +kernel
theorem dX5_readTerm_22 : decode cX5_readTerm 22 = .ok (.getfield 29, 3) := by decide +kernel
theorem dX5_readTerm_25 : decode cX5_readTerm 25 = .ok (.iconst 1, 1) := by decide +kernel
theorem dX5_readTerm_26 : decode cX5_readTerm 26 = .ok (.iadd, 1) := by decide +kernel
theorem dX5_readTerm_27 : decode cX5_readTerm 27 = .ok (.putfield 29, 3) := by decide +kernel
theorem dX5_readTerm_30 : decode cX5_readTerm 30 = .ok (.aload_n 0, 1) := by decide +kernel
theorem dX5_readTerm_31 : decode cX5_readTerm 31 = .ok (.getfield 21, 3) := by decide +kernel
theorem dX5_readTerm_34 : decode cX5_readTerm 34 = .ok (.iload_n 1, 1) := by decide +kernel
theorem dX5_readTerm_35 : decode cX5_readTerm 35 = .ok (.iload_n 3, 1) := by decide +kernel
theorem dX5_readTerm_36 : decode cX5_readTerm 36 = .ok (.iconst 0, 1) := by decide +kernel
theorem dX5_readTerm_37 : decode cX5_readTerm 37 = .ok (.invokevirtual 48, 3) := by decide +kernel
theorem dX5_readTerm_40 : decode cX5_readTerm 40 = .ok (.pop, 1) := by decide +kernel
theorem dX5_readTerm_41 : decode cX5_readTerm 41 = .ok (.iconst 1, 1) := by decide +kernel
theorem dX5_readTerm_42 : decode cX5_readTerm 42 = .ok (.ireturn, 1) := by decide +kernel
theorem dX5_readTerm_43 : decode cX5_readTerm 43 = .ok (.iconst 0, 1) := by decide +kernel
theorem dX5_readTerm_44 : decode cX5_readTerm 44 = .ok (.istore 4, 2) := by decide +kernel
theorem dX5_readTerm_46 : decode cX5_readTerm 46 = .ok (.iconst 0, 1) := by decide +kernel
theorem dX5_readTerm_47 : decode cX5_readTerm 47 = .ok (.istore 5, 2) := by decide +kernel
theorem dX5_readTerm_49 : decode cX5_readTerm 49 = .ok (.iload 5, 2) := by decide +kernel
theorem dX5_readTerm_51 : decode cX5_readTerm 51 = .ok (.bipush 6, 2) := by decide +kernel
theorem dX5_readTerm_53 : decode cX5_readTerm 53 = .ok (.if_icmp .ge 58, 3) := by decide +kernel
theorem dX5_readTerm_56 : decode cX5_readTerm 56 = .ok (.aload_n 0, 1) := by decide +kernel
theorem dX5_readTerm_57 : decode cX5_readTerm 57 = .ok (.getfield 12, 3) := by decide +kernel
theorem dX5_readTerm_60 : decode cX5_readTerm 60 = .ok (.aload_n 0, 1) := by decide +kernel
theorem dX5_readTerm_61 : decode cX5_readTerm 61 = .ok (.getfield 29, 3) := by decide +kernel
theorem dX5_readTerm_64 : decode cX5_readTerm 64 = .ok (.invokevirtual 40, 3) := by decide +kernel
theorem dX5_readTerm_67 : decode cX5_readTerm 67 = .ok (.invokestatic 82, 3) := by decide +kernel
theorem dX5_readTerm_70 : decode cX5_readTerm 70 = .ok (.ifCond .eq 41, 3) := by decide +kernel
theorem dX5_readTerm_73 : decode cX5_readTerm 73 = .ok (.iload 4, 2) := by decide +kernel
theorem dX5_readTerm_75 : decode cX5_readTerm 75 = .ok (.bipush 10, 2) := by decide +kernel
theorem dX5_readTerm_77 : decode cX5_readTerm 77 = .ok (.imul, 1) := by decide +kernel
theorem dX5_readTerm_78 : decode cX5_readTerm 78 = .ok (.aload_n 0, 1) := by decide +kernel
theorem dX5_readTerm_79 : decode cX5_readTerm 79 = .ok (.getfield 12, 3) := by decide +kernel
theorem dX5_readTerm_82 : decode cX5_readTerm 82 = .ok (.aload_n 0, 1) := by decide +kernel
theorem dX5_readTerm_83 : decode cX5_readTerm 83 = .ok (.getfield 29, 3) := by decide +kernel
theorem dX5_readTerm_86 : decode cX5_readTerm 86 = .ok (.invokevirtual 40, 3) := by decide +kernel
theorem dX5_readTerm_89 : decode cX5_readTerm 89 = .ok (.bipush 48, 2) := by decide +kernel
theorem dX5_readTerm_91 : decode cX5_readTerm 91 = .ok (.isub, 1) := by decide +kernel
theorem dX5_readTerm_92 : decode cX5_readTerm 92 = .ok (.iadd, 1) := by decide +kernel
theorem dX5_readTerm_93 : decode cX5_readTerm 93 = .ok (.istore 4, 2) := by decide +kernel
theorem dX5_readTerm_95 : decode cX5_readTerm 95 = .ok (.iinc 5 1, 3) := by decide +kernel
theorem dX5_readTerm_98 : decode cX5_readTerm 98 = .ok (.aload_n 0, 1) := by decide +kernel
theorem dX5_readTerm_99 : decode cX5_readTerm 99 = .ok (.dup, 1) := by decide +kernel
theorem dX5_readTerm_100 : decode cX5_readTerm 100 = .ok (.getfield 29, 3) := by decide +kernel
theorem dX5_readTerm_103 : decode cX5_readTerm 103 = .ok (.iconst 1, 1) := by decide +kernel
theorem dX5_readTerm_104 : decode cX5_readTerm 104 = .ok (.iadd, 1) := by decide +kernel
theorem dX5_readTerm_105 : decode cX5_readTerm 105 = .ok (.putfield 29, 3) := by decide +kernel
theorem dX5_readTerm_108 : decode cX5_readTerm 108 = .ok (.goto (-59), 3) := by decide +kernel
theorem dX5_readTerm_111 : decode cX5_readTerm 111 = .ok (.aload_n 0, 1) := by decide +kernel
theorem dX5_readTerm_112 : decode cX5_readTerm 112 = .ok (.getfield 21, 3) := by decide +kernel
theorem dX5_readTerm_115 : decode cX5_readTerm 115 = .ok (.iload_n 1, 1) := by decide +kernel
theorem dX5_readTerm_116 : decode cX5_readTerm 116 = .ok (.iconst 0, 1) := by decide +kernel
theorem dX5_readTerm_117 : decode cX5_readTerm 117 = .ok (.iload 4, 2) := by decide +kernel
theorem dX5_readTerm_119 : decode cX5_readTerm 119 = .ok (.invokevirtual 48, 3) := by decide +kernel
theorem dX5_readTerm_122 : decode cX5_readTerm 122 = .ok (.pop, 1) := by decide +kernel
theorem dX5_readTerm_123 : decode cX5_readTerm 123 = .ok (.iload 5, 2) := by decide +kernel
theorem dX5_readTerm_125 : decode cX5_readTerm 125 = .ok (.ifCond .le 7, 3) := by decide +kernel
theorem dX5_readTerm_128 : decode cX5_readTerm 128 = .ok (.iconst 1, 1) := by decide +kernel
theorem dX5_readTerm_129 : decode cX5_readTerm 129 = .ok (.goto 4, 3) := by decide +kernel
theorem dX5_readTerm_132 : decode cX5_readTerm 132 = .ok (.iconst 0, 1) := by decide +kernel
theorem dX5_readTerm_133 : decode cX5_readTerm 133 = .ok (.ireturn, 1) := by decide +kernel
theorem dX5_isName_0 : decode cX5_isName 0 = .ok (.ldc 85, 2) := by decide +kernel
theorem dX5_isName_2 : decode cX5_isName 2 = .ok (.iload_n 0, 1) := by decide +kernel
theorem dX5_isName_3 : decode cX5_isName 3 = .ok (.invokevirtual 87, 3) := by decide +kernel
theorem dX5_isName_6 : decode cX5_isName 6 = .ok (.ifCond .ge 16, 3) := by decide +kernel
theorem dX5_isName_9 : decode cX5_isName 9 = .ok (.iload_n 1, 1) := by decide +kernel
theorem dX5_isName_10 : decode cX5_isName 10 = .ok (.ifCond .eq 16, 3) := by decide +kernel
theorem dX5_isName_13 : decode cX5_isName 13 = .ok (.ldc 93, 2) := by decide +kernel
theorem dX5_isName_15 : decode cX5_isName 15 = .ok (.iload_n 0, 1) := by decide +kernel
theorem dX5_isName_16 : decode cX5_isName 16 = .ok (.invokevirtual 87, 3) := by decide +kernel
theorem dX5_isName_19 : decode cX5_isName 19 = .ok (.ifCond .lt 7, 3) := by decide +kernel
theorem dX5_isName_22 : decode cX5_isName 22 = .ok (.iconst 1, 1) := by decide +kernel
theorem dX5_isName_23 : decode cX5_isName 23 = .ok (.goto 4, 3) := by decide +kernel
theorem dX5_isName_26 : decode cX5_isName 26 = .ok (.iconst 0, 1) := by decide +kernel
theorem dX5_isName_27 : decode cX5_isName 27 = .ok (.ireturn, 1) := by decide +kernel
theorem dX5_isDigit_0 : decode cX5_isDigit 0 = .ok (.iload_n 0, 1) := by decide +kernel
theorem dX5_isDigit_1 : decode cX5_isDigit 1 = .ok (.bipush 48, 2) := by decide +kernel
theorem dX5_isDigit_3 : decode cX5_isDigit 3 = .ok (.if_icmp .lt 13, 3) := by decide +kernel
theorem dX5_isDigit_6 : decode cX5_isDigit 6 = .ok (.iload_n 0, 1) := by decide +kernel
theorem dX5_isDigit_7 : decode cX5_isDigit 7 = .ok (.bipush 57, 2) := by decide +kernel
theorem dX5_isDigit_9 : decode cX5_isDigit 9 = .ok (.if_icmp .gt 7, 3) := by decide +kernel
theorem dX5_isDigit_12 : decode cX5_isDigit 12 = .ok (.iconst 1, 1) := by decide +kernel
theorem dX5_isDigit_13 : decode cX5_isDigit 13 = .ok (.goto 4, 3) := by decide +kernel
theorem dX5_isDigit_16 : decode cX5_isDigit 16 = .ok (.iconst 0, 1) := by decide +kernel
theorem dX5_isDigit_17 : decode cX5_isDigit 17 = .ok (.ireturn, 1) := by decide +kernel
theorem dX5_skip_0 : decode cX5_skip 0 = .ok (.aload_n 0, 1) := by decide +kernel
theorem dX5_skip_1 : decode cX5_skip 1 = .ok (.getfield 12, 3) := by decide +kernel
theorem dX5_skip_4 : decode cX5_skip 4 = .ok (.aload_n 0, 1) := by decide +kernel
theorem dX5_skip_5 : decode cX5_skip 5 = .ok (.getfield 29, 3) := by decide +kernel
theorem dX5_skip_8 : decode cX5_skip 8 = .ok (.invokevirtual 40, 3) := by decide +kernel
theorem dX5_skip_11 : decode cX5_skip 11 = .ok (.iload_n 1, 1) := by decide +kernel
theorem dX5_skip_12 : decode cX5_skip 12 = .ok (.if_icmp .ne 7, 3) := by decide +kernel
theorem dX5_skip_15 : decode cX5_skip 15 = .ok (.iconst 1, 1) := by decide +kernel
theorem dX5_skip_16 : decode cX5_skip 16 = .ok (.goto 4, 3) := by decide +kernel
theorem dX5_skip_19 : decode cX5_skip 19 = .ok (.iconst 0, 1) := by decide +kernel
theorem dX5_skip_20 : decode cX5_skip 20 = .ok (.istore_n 2, 1) := by decide +kernel
theorem dX5_skip_21 : decode cX5_skip 21 = .ok (.iload_n 2, 1) := by decide +kernel
theorem dX5_skip_22 : decode cX5_skip 22 = .ok (.ifCond .eq 13, 3) := by decide +kernel
theorem dX5_skip_25 : decode cX5_skip 25 = .ok (.aload_n 0, 1) := by decide +kernel
theorem dX5_skip_26 : decode cX5_skip 26 = .ok (.dup, 1) := by decide +kernel
theorem dX5_skip_27 : decode cX5_skip 27 = .ok (.getfield 29, 3) := by decide +kernel
theorem dX5_skip_30 : decode cX5_skip 30 = .ok (.iconst 1, 1) := by decide +kernel
theorem dX5_skip_31 : decode cX5_skip 31 = .ok (.iadd, 1) := by decide +kernel
theorem dX5_skip_32 : decode cX5_skip 32 = .ok (.putfield 29, 3) := by decide +kernel
theorem dX5_skip_35 : decode cX5_skip 35 = .ok (.iload_n 2, 1) := by decide +kernel
theorem dX5_skip_36 : decode cX5_skip 36 = .ok (.ireturn, 1) := by decide +kernel
