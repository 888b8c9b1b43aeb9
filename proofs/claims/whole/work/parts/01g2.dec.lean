theorem dX8_strike_57 : decode cX8_strike 57 = .ok (.iastore, 1) := by decide +kernel
theorem dX8_strike_58 : decode cX8_strike 58 = .ok (.aload_n 0, 1) := by decide +kernel
theorem dX8_strike_59 : decode cX8_strike 59 = .ok (.getfield 59, 3) := by decide +kernel
theorem dX8_strike_62 : decode cX8_strike 62 = .ok (.iload_n 2, 1) := by decide +kernel
theorem dX8_strike_63 : decode cX8_strike 63 = .ok (.aload_n 0, 1) := by decide +kernel
theorem dX8_strike_64 : decode cX8_strike 64 = .ok (.getfield 59, 3) := by decide +kernel
theorem dX8_strike_67 : decode cX8_strike 67 = .ok (.iload_n 2, 1) := by decide +kernel
theorem dX8_strike_68 : decode cX8_strike 68 = .ok (.iconst 1, 1) := by decide +kernel
theorem dX8_strike_69 : decode cX8_strike 69 = .ok (.iadd, 1) := by decide +kernel
theorem dX8_strike_70 : decode cX8_strike 70 = .ok (.iaload, 1) := by decide +kernel
theorem dX8_strike_71 : decode cX8_strike 71 = .ok (.iastore, 1) := by decide +kernel
theorem dX8_strike_72 : decode cX8_strike 72 = .ok (.aload_n 0, 1) := by decide +kernel
theorem dX8_strike_73 : decode cX8_strike 73 = .ok (.getfield 62, 3) := by decide +kernel
theorem dX8_strike_76 : decode cX8_strike 76 = .ok (.iload_n 2, 1) := by decide +kernel
theorem dX8_strike_77 : decode cX8_strike 77 = .ok (.aload_n 0, 1) := by decide +kernel
theorem dX8_strike_78 : decode cX8_strike 78 = .ok (.getfield 62, 3) := by decide +kernel
theorem dX8_strike_81 : decode cX8_strike 81 = .ok (.iload_n 2, 1) := by decide +kernel
theorem dX8_strike_82 : decode cX8_strike 82 = .ok (.iconst 1, 1) := by decide +kernel
theorem dX8_strike_83 : decode cX8_strike 83 = .ok (.iadd, 1) := by decide +kernel
theorem dX8_strike_84 : decode cX8_strike 84 = .ok (.iaload, 1) := by decide +kernel
theorem dX8_strike_85 : decode cX8_strike 85 = .ok (.iastore, 1) := by decide +kernel
theorem dX8_strike_86 : decode cX8_strike 86 = .ok (.iinc 2 1, 3) := by decide +kernel
theorem dX8_strike_89 : decode cX8_strike 89 = .ok (.goto (-55), 3) := by decide +kernel
theorem dX8_strike_92 : decode cX8_strike 92 = .ok (.aload_n 0, 1) := by decide +kernel
theorem dX8_strike_93 : decode cX8_strike 93 = .ok (.dup, 1) := by decide +kernel
theorem dX8_strike_94 : decode cX8_strike 94 = .ok (.getfield 200, 3) := by decide +kernel
theorem dX8_strike_97 : decode cX8_strike 97 = .ok (.iconst 1, 1) := by decide +kernel
theorem dX8_strike_98 : decode cX8_strike 98 = .ok (.isub, 1) := by decide +kernel
theorem dX8_strike_99 : decode cX8_strike 99 = .ok (.putfield 200, 3) := by decide +kernel
theorem dX8_strike_102 : decode cX8_strike 102 = .ok (.aload_n 0, 1) := by decide +kernel
theorem dX8_strike_103 : decode cX8_strike 103 = .ok (.getfield 200, 3) := by decide +kernel
theorem dX8_strike_106 : decode cX8_strike 106 = .ok (.ireturn, 1) := by decide +kernel
theorem dX8_amount_0 : decode cX8_amount 0 = .ok (.aload_n 0, 1) := by decide +kernel
theorem dX8_amount_1 : decode cX8_amount 1 = .ok (.getfield 83, 3) := by decide +kernel
theorem dX8_amount_4 : decode cX8_amount 4 = .ok (.bipush 6, 2) := by decide +kernel
theorem dX8_amount_6 : decode cX8_amount 6 = .ok (.iload_n 1, 1) := by decide +kernel
theorem dX8_amount_7 : decode cX8_amount 7 = .ok (.imul, 1) := by decide +kernel
theorem dX8_amount_8 : decode cX8_amount 8 = .ok (.iload_n 2, 1) := by decide +kernel
theorem dX8_amount_9 : decode cX8_amount 9 = .ok (.iadd, 1) := by decide +kernel
theorem dX8_amount_10 : decode cX8_amount 10 = .ok (.iaload, 1) := by decide +kernel
theorem dX8_amount_11 : decode cX8_amount 11 = .ok (.aload_n 0, 1) := by decide +kernel
theorem dX8_amount_12 : decode cX8_amount 12 = .ok (.getfield 86, 3) := by decide +kernel
theorem dX8_amount_15 : decode cX8_amount 15 = .ok (.bipush 6, 2) := by decide +kernel
theorem dX8_amount_17 : decode cX8_amount 17 = .ok (.iload_n 1, 1) := by decide +kernel
theorem dX8_amount_18 : decode cX8_amount 18 = .ok (.imul, 1) := by decide +kernel
theorem dX8_amount_19 : decode cX8_amount 19 = .ok (.iload_n 2, 1) := by decide +kernel
theorem dX8_amount_20 : decode cX8_amount 20 = .ok (.iadd, 1) := by decide +kernel
theorem dX8_amount_21 : decode cX8_amount 21 = .ok (.iaload, 1) := by decide +kernel
theorem dX8_amount_22 : decode cX8_amount 22 = .ok (.imul, 1) := by decide +kernel
theorem dX8_amount_23 : decode cX8_amount 23 = .ok (.ireturn, 1) := by decide +kernel
theorem dX8_rounded_0 : decode cX8_rounded 0 = .ok (.iload_n 0, 1) := by decide +kernel
theorem dX8_rounded_1 : decode cX8_rounded 1 = .ok (.bipush 50, 2) := by decide +kernel
theorem dX8_rounded_3 : decode cX8_rounded 3 = .ok (.iadd, 1) := by decide +kernel
theorem dX8_rounded_4 : decode cX8_rounded 4 = .ok (.bipush 100, 2) := by decide +kernel
theorem dX8_rounded_6 : decode cX8_rounded 6 = .ok (.idiv, 1) := by decide +kernel
theorem dX8_rounded_7 : decode cX8_rounded 7 = .ok (.ireturn, 1) := by decide +kernel
theorem dX8_rateOf_0 : decode cX8_rateOf 0 = .ok (.iload_n 1, 1) := by decide +kernel
theorem dX8_rateOf_1 : decode cX8_rateOf 1 = .ok (.iconst (-1), 1) := by decide +kernel
theorem dX8_rateOf_2 : decode cX8_rateOf 2 = .ok (.if_icmp .ne 7, 3) := by decide +kernel
theorem dX8_rateOf_5 : decode cX8_rateOf 5 = .ok (.iconst 0, 1) := by decide +kernel
theorem dX8_rateOf_6 : decode cX8_rateOf 6 = .ok (.goto 9, 3) := by decide +kernel
theorem dX8_rateOf_9 : decode cX8_rateOf 9 = .ok (.aload_n 0, 1) := by decide +kernel
theorem dX8_rateOf_10 : decode cX8_rateOf 10 = .ok (.getfield 44, 3) := by decide +kernel
theorem dX8_rateOf_13 : decode cX8_rateOf 13 = .ok (.iload_n 1, 1) := by decide +kernel
theorem dX8_rateOf_14 : decode cX8_rateOf 14 = .ok (.iaload, 1) := by decide +kernel
theorem dX8_rateOf_15 : decode cX8_rateOf 15 = .ok (.ireturn, 1) := by decide +kernel
theorem dX8_taxBy_0 : decode cX8_taxBy 0 = .ok (.iconst 0, 1) := by decide +kernel
theorem dX8_taxBy_1 : decode cX8_taxBy 1 = .ok (.istore_n 2, 1) := by decide +kernel
theorem dX8_taxBy_2 : decode cX8_taxBy 2 = .ok (.iconst 0, 1) := by decide +kernel
theorem dX8_taxBy_3 : decode cX8_taxBy 3 = .ok (.istore_n 3, 1) := by decide +kernel
theorem dX8_taxBy_4 : decode cX8_taxBy 4 = .ok (.iconst 0, 1) := by decide +kernel
theorem dX8_taxBy_5 : decode cX8_taxBy 5 = .ok (.istore 4, 2) := by decide +kernel
theorem dX8_taxBy_7 : decode cX8_taxBy 7 = .ok (.iload 4, 2) := by decide +kernel
theorem dX8_taxBy_9 : decode cX8_taxBy 9 = .ok (.iconst 4, 1) := by decide +kernel
theorem dX8_taxBy_10 : decode cX8_taxBy 10 = .ok (.if_icmp .ge 17, 3) := by decide +kernel
theorem dX8_taxBy_13 : decode cX8_taxBy 13 = .ok (.aload_n 0, 1) := by decide +kernel
theorem dX8_taxBy_14 : decode cX8_taxBy 14 = .ok (.getfield 95, 3) := by decide +kernel
theorem dX8_taxBy_17 : decode cX8_taxBy 17 = .ok (.iload 4, 2) := by decide +kernel
theorem dX8_taxBy_19 : decode cX8_taxBy 19 = .ok (.iconst 0, 1) := by decide +kernel
theorem dX8_taxBy_20 : decode cX8_taxBy 20 = .ok (.iastore, 1) := by decide +kernel
theorem dX8_taxBy_21 : decode cX8_taxBy 21 = .ok (.iinc 4 1, 3) := by decide +kernel
theorem dX8_taxBy_24 : decode cX8_taxBy 24 = .ok (.goto (-17), 3) := by decide +kernel
theorem dX8_taxBy_27 : decode cX8_taxBy 27 = .ok (.iconst 0, 1) := by decide +kernel
theorem dX8_taxBy_28 : decode cX8_taxBy 28 = .ok (.istore 4, 2) := by decide +kernel
theorem dX8_taxBy_30 : decode cX8_taxBy 30 = .ok (.iload 4, 2) := by decide +kernel
theorem dX8_taxBy_32 : decode cX8_taxBy 32 = .ok (.aload_n 0, 1) := by decide +kernel
theorem dX8_taxBy_33 : decode cX8_taxBy 33 = .ok (.getfield 71, 3) := by decide +kernel
theorem dX8_taxBy_36 : decode cX8_taxBy 36 = .ok (.iload_n 1, 1) := by decide +kernel
theorem dX8_taxBy_37 : decode cX8_taxBy 37 = .ok (.iaload, 1) := by decide +kernel
theorem dX8_taxBy_38 : decode cX8_taxBy 38 = .ok (.if_icmp .ge 61, 3) := by decide +kernel
theorem dX8_taxBy_41 : decode cX8_taxBy 41 = .ok (.aload_n 0, 1) := by decide +kernel
theorem dX8_taxBy_42 : decode cX8_taxBy 42 = .ok (.iload_n 1, 1) := by decide +kernel
theorem dX8_taxBy_43 : decode cX8_taxBy 43 = .ok (.iload 4, 2) := by decide +kernel
theorem dX8_taxBy_45 : decode cX8_taxBy 45 = .ok (.invokevirtual 203, 3) := by decide +kernel
theorem dX8_taxBy_48 : decode cX8_taxBy 48 = .ok (.aload_n 0, 1) := by decide +kernel
theorem dX8_taxBy_49 : decode cX8_taxBy 49 = .ok (.getfield 98, 3) := by decide +kernel
theorem dX8_taxBy_52 : decode cX8_taxBy 52 = .ok (.iload 4, 2) := by decide +kernel
theorem dX8_taxBy_54 : decode cX8_taxBy 54 = .ok (.iaload, 1) := by decide +kernel
theorem dX8_taxBy_55 : decode cX8_taxBy 55 = .ok (.imul, 1) := by decide +kernel
theorem dX8_taxBy_56 : decode cX8_taxBy 56 = .ok (.istore 5, 2) := by decide +kernel
theorem dX8_taxBy_58 : decode cX8_taxBy 58 = .ok (.iload_n 2, 1) := by decide +kernel
theorem dX8_taxBy_59 : decode cX8_taxBy 59 = .ok (.iload 5, 2) := by decide +kernel
theorem dX8_taxBy_61 : decode cX8_taxBy 61 = .ok (.invokestatic 207, 3) := by decide +kernel
theorem dX8_taxBy_64 : decode cX8_taxBy 64 = .ok (.iadd, 1) := by decide +kernel
theorem dX8_taxBy_65 : decode cX8_taxBy 65 = .ok (.istore_n 2, 1) := by decide +kernel
theorem dX8_taxBy_66 : decode cX8_taxBy 66 = .ok (.iload_n 3, 1) := by decide +kernel
theorem dX8_taxBy_67 : decode cX8_taxBy 67 = .ok (.iload 5, 2) := by decide +kernel
theorem dX8_taxBy_69 : decode cX8_taxBy 69 = .ok (.iadd, 1) := by decide +kernel
theorem dX8_taxBy_70 : decode cX8_taxBy 70 = .ok (.istore_n 3, 1) := by decide +kernel
theorem dX8_taxBy_71 : decode cX8_taxBy 71 = .ok (.aload_n 0, 1) := by decide +kernel
theorem dX8_taxBy_72 : decode cX8_taxBy 72 = .ok (.getfield 95, 3) := by decide +kernel
theorem dX8_taxBy_75 : decode cX8_taxBy 75 = .ok (.aload_n 0, 1) := by decide +kernel
theorem dX8_taxBy_76 : decode cX8_taxBy 76 = .ok (.getfield 80, 3) := by decide +kernel
theorem dX8_taxBy_79 : decode cX8_taxBy 79 = .ok (.bipush 6, 2) := by decide +kernel
theorem dX8_taxBy_81 : decode cX8_taxBy 81 = .ok (.iload_n 1, 1) := by decide +kernel
theorem dX8_taxBy_82 : decode cX8_taxBy 82 = .ok (.imul, 1) := by decide +kernel
theorem dX8_taxBy_83 : decode cX8_taxBy 83 = .ok (.iload 4, 2) := by decide +kernel
theorem dX8_taxBy_85 : decode cX8_taxBy 85 = .ok (.iadd, 1) := by decide +kernel
theorem dX8_taxBy_86 : decode cX8_taxBy 86 = .ok (.iaload, 1) := by decide +kernel
theorem dX8_taxBy_87 : decode cX8_taxBy 87 = .ok (.dup2, 1) := by decide +kernel
theorem dX8_taxBy_88 : decode cX8_taxBy 88 = .ok (.iaload, 1) := by decide +kernel
theorem dX8_taxBy_89 : decode cX8_taxBy 89 = .ok (.iload 5, 2) := by decide +kernel
theorem dX8_taxBy_91 : decode cX8_taxBy 91 = .ok (.iadd, 1) := by decide +kernel
theorem dX8_taxBy_92 : decode cX8_taxBy 92 = .ok (.iastore, 1) := by decide +kernel
theorem dX8_taxBy_93 : decode cX8_taxBy 93 = .ok (.iinc 4 1, 3) := by decide +kernel
theorem dX8_taxBy_96 : decode cX8_taxBy 96 = .ok (.goto (-66), 3) := by decide +kernel
theorem dX8_taxBy_99 : decode cX8_taxBy 99 = .ok (.iconst 0, 1) := by decide +kernel
theorem dX8_taxBy_100 : decode cX8_taxBy 100 = .ok (.istore 4, 2) := by decide +kernel
theorem dX8_taxBy_102 : decode cX8_taxBy 102 = .ok (.iconst 0, 1) := by decide +kernel
theorem dX8_taxBy_103 : decode cX8_taxBy 103 = .ok (.istore 5, 2) := by decide +kernel
theorem dX8_taxBy_105 : decode cX8_taxBy 105 = .ok (.iload 5, 2) := by decide +kernel
theorem dX8_taxBy_107 : decode cX8_taxBy 107 = .ok (.iconst 4, 1) := by decide +kernel
theorem dX8_taxBy_108 : decode cX8_taxBy 108 = .ok (.if_icmp .ge 24, 3) := by decide +kernel
theorem dX8_taxBy_111 : decode cX8_taxBy 111 = .ok (.iload 4, 2) := by decide +kernel
theorem dX8_taxBy_113 : decode cX8_taxBy 113 = .ok (.aload_n 0, 1) := by decide +kernel
theorem dX8_taxBy_114 : decode cX8_taxBy 114 = .ok (.getfield 95, 3) := by decide +kernel
theorem dX8_taxBy_117 : decode cX8_taxBy 117 = .ok (.iload 5, 2) := by decide +kernel
theorem dX8_taxBy_119 : decode cX8_taxBy 119 = .ok (.iaload, 1) := by decide +kernel
theorem dX8_taxBy_120 : decode cX8_taxBy 120 = .ok (.invokestatic 207, 3) := by decide +kernel
theorem dX8_taxBy_123 : decode cX8_taxBy 123 = .ok (.iadd, 1) := by decide +kernel
theorem dX8_taxBy_124 : decode cX8_taxBy 124 = .ok (.istore 4, 2) := by decide +kernel
theorem dX8_taxBy_126 : decode cX8_taxBy 126 = .ok (.iinc 5 1, 3) := by decide +kernel
theorem dX8_taxBy_129 : decode cX8_taxBy 129 = .ok (.goto (-24), 3) := by decide +kernel
theorem dX8_taxBy_132 : decode cX8_taxBy 132 = .ok (.aload_n 0, 1) := by decide +kernel
theorem dX8_taxBy_133 : decode cX8_taxBy 133 = .ok (.getfield 77, 3) := by decide +kernel
theorem dX8_taxBy_136 : decode cX8_taxBy 136 = .ok (.iload_n 1, 1) := by decide +kernel
theorem dX8_taxBy_137 : decode cX8_taxBy 137 = .ok (.iaload, 1) := by decide +kernel
theorem dX8_taxBy_138 : decode cX8_taxBy 138 = .ok (.ifCond .ne 7, 3) := by decide +kernel
theorem dX8_taxBy_141 : decode cX8_taxBy 141 = .ok (.iload_n 2, 1) := by decide +kernel
theorem dX8_taxBy_142 : decode cX8_taxBy 142 = .ok (.goto 22, 3) := by decide +kernel
theorem dX8_taxBy_145 : decode cX8_taxBy 145 = .ok (.aload_n 0, 1) := by decide +kernel
theorem dX8_taxBy_146 : decode cX8_taxBy 146 = .ok (.getfield 77, 3) := by decide +kernel
theorem dX8_taxBy_149 : decode cX8_taxBy 149 = .ok (.iload_n 1, 1) := by decide +kernel
theorem dX8_taxBy_150 : decode cX8_taxBy 150 = .ok (.iaload, 1) := by decide +kernel
theorem dX8_taxBy_151 : decode cX8_taxBy 151 = .ok (.iconst 1, 1) := by decide +kernel
theorem dX8_taxBy_152 : decode cX8_taxBy 152 = .ok (.if_icmp .ne 8, 3) := by decide +kernel
theorem dX8_taxBy_155 : decode cX8_taxBy 155 = .ok (.iload 4, 2) := by decide +kernel
theorem dX8_taxBy_157 : decode cX8_taxBy 157 = .ok (.goto 7, 3) := by decide +kernel
theorem dX8_taxBy_160 : decode cX8_taxBy 160 = .ok (.iload_n 3, 1) := by decide +kernel
theorem dX8_taxBy_161 : decode cX8_taxBy 161 = .ok (.invokestatic 207, 3) := by decide +kernel
theorem dX8_taxBy_164 : decode cX8_taxBy 164 = .ok (.ireturn, 1) := by decide +kernel
theorem dX8_make_0 : decode cX8_make 0 = .ok (.aload_n 0, 1) := by decide +kernel
theorem dX8_make_1 : decode cX8_make 1 = .ok (.iload_n 1, 1) := by decide +kernel
theorem dX8_make_2 : decode cX8_make 2 = .ok (.iconst 0, 1) := by decide +kernel
theorem dX8_make_3 : decode cX8_make 3 = .ok (.bipush 9, 2) := by decide +kernel
theorem dX8_make_5 : decode cX8_make 5 = .ok (.invokestatic 120, 3) := by decide +kernel
theorem dX8_make_8 : decode cX8_make 8 = .ok (.ifCond .ne 7, 3) := by decide +kernel
theorem dX8_make_11 : decode cX8_make 11 = .ok (.iconst 1, 1) := by decide +kernel
theorem dX8_make_12 : decode cX8_make 12 = .ok (.goto 24, 3) := by decide +kernel
theorem dX8_make_15 : decode cX8_make 15 = .ok (.aload_n 0, 1) := by decide +kernel
theorem dX8_make_16 : decode cX8_make 16 = .ok (.getfield 200, 3) := by decide +kernel
theorem dX8_make_19 : decode cX8_make 19 = .ok (.ifCond .eq 12, 3) := by decide +kernel
theorem dX8_make_22 : decode cX8_make 22 = .ok (.aload_n 0, 1) := by decide +kernel
theorem dX8_make_23 : decode cX8_make 23 = .ok (.getfield 210, 3) := by decide +kernel
theorem dX8_make_26 : decode cX8_make 26 = .ok (.bipush 30, 2) := by decide +kernel
theorem dX8_make_28 : decode cX8_make 28 = .ok (.if_icmp .ne 7, 3) := by decide +kernel
theorem dX8_make_31 : decode cX8_make 31 = .ok (.iconst 2, 1) := by decide +kernel
theorem dX8_make_32 : decode cX8_make 32 = .ok (.goto 4, 3) := by decide +kernel
theorem dX8_make_35 : decode cX8_make 35 = .ok (.iconst 0, 1) := by decide +kernel
theorem dX8_make_36 : decode cX8_make 36 = .ok (.putfield 110, 3) := by decide +kernel
theorem dX8_make_39 : decode cX8_make 39 = .ok (.aload_n 0, 1) := by decide +kernel
theorem dX8_make_40 : decode cX8_make 40 = .ok (.getfield 110, 3) := by decide +kernel
theorem dX8_make_43 : decode cX8_make 43 = .ok (.ifCond .le 5, 3) := by decide +kernel
theorem dX8_make_46 : decode cX8_make 46 = .ok (.iconst 0, 1) := by decide +kernel
theorem dX8_make_47 : decode cX8_make 47 = .ok (.ireturn, 1) := by decide +kernel
theorem dX8_make_48 : decode cX8_make 48 = .ok (.aload_n 0, 1) := by decide +kernel
theorem dX8_make_49 : decode cX8_make 49 = .ok (.getfield 53, 3) := by decide +kernel
theorem dX8_make_52 : decode cX8_make 52 = .ok (.iload_n 1, 1) := by decide +kernel
theorem dX8_make_53 : decode cX8_make 53 = .ok (.iaload, 1) := by decide +kernel
theorem dX8_make_54 : decode cX8_make 54 = .ok (.istore_n 2, 1) := by decide +kernel
theorem dX8_make_55 : decode cX8_make 55 = .ok (.aload_n 0, 1) := by decide +kernel
theorem dX8_make_56 : decode cX8_make 56 = .ok (.getfield 65, 3) := by decide +kernel
theorem dX8_make_59 : decode cX8_make 59 = .ok (.aload_n 0, 1) := by decide +kernel
theorem dX8_make_60 : decode cX8_make 60 = .ok (.getfield 210, 3) := by decide +kernel
theorem dX8_make_63 : decode cX8_make 63 = .ok (.iload_n 1, 1) := by decide +kernel
theorem dX8_make_64 : decode cX8_make 64 = .ok (.iastore, 1) := by decide +kernel
theorem dX8_make_65 : decode cX8_make 65 = .ok (.aload_n 0, 1) := by decide +kernel
theorem dX8_make_66 : decode cX8_make 66 = .ok (.getfield 68, 3) := by decide +kernel
theorem dX8_make_69 : decode cX8_make 69 = .ok (.aload_n 0, 1) := by decide +kernel
theorem dX8_make_70 : decode cX8_make 70 = .ok (.getfield 210, 3) := by decide +kernel
theorem dX8_make_73 : decode cX8_make 73 = .ok (.aload_n 0, 1) := by decide +kernel
theorem dX8_make_74 : decode cX8_make 74 = .ok (.getfield 187, 3) := by decide +kernel
theorem dX8_make_77 : decode cX8_make 77 = .ok (.iastore, 1) := by decide +kernel
theorem dX8_make_78 : decode cX8_make 78 = .ok (.aload_n 0, 1) := by decide +kernel
theorem dX8_make_79 : decode cX8_make 79 = .ok (.getfield 71, 3) := by decide +kernel
theorem dX8_make_82 : decode cX8_make 82 = .ok (.aload_n 0, 1) := by decide +kernel
theorem dX8_make_83 : decode cX8_make 83 = .ok (.getfield 210, 3) := by decide +kernel
theorem dX8_make_86 : decode cX8_make 86 = .ok (.aload_n 0, 1) := by decide +kernel
theorem dX8_make_87 : decode cX8_make 87 = .ok (.getfield 200, 3) := by decide +kernel
theorem dX8_make_90 : decode cX8_make 90 = .ok (.iastore, 1) := by decide +kernel
theorem dX8_make_91 : decode cX8_make 91 = .ok (.aload_n 0, 1) := by decide +kernel
theorem dX8_make_92 : decode cX8_make 92 = .ok (.getfield 74, 3) := by decide +kernel
theorem dX8_make_95 : decode cX8_make 95 = .ok (.aload_n 0, 1) := by decide +kernel
theorem dX8_make_96 : decode cX8_make 96 = .ok (.getfield 210, 3) := by decide +kernel
theorem dX8_make_99 : decode cX8_make 99 = .ok (.iload_n 2, 1) := by decide +kernel
theorem dX8_make_100 : decode cX8_make 100 = .ok (.iastore, 1) := by decide +kernel
theorem dX8_make_101 : decode cX8_make 101 = .ok (.aload_n 0, 1) := by decide +kernel
theorem dX8_make_102 : decode cX8_make 102 = .ok (.getfield 77, 3) := by decide +kernel
theorem dX8_make_105 : decode cX8_make 105 = .ok (.aload_n 0, 1) := by decide +kernel
theorem dX8_make_106 : decode cX8_make 106 = .ok (.getfield 210, 3) := by decide +kernel
theorem dX8_make_109 : decode cX8_make 109 = .ok (.aload_n 0, 1) := by decide +kernel
theorem dX8_make_110 : decode cX8_make 110 = .ok (.getfield 50, 3) := by decide +kernel
theorem dX8_make_113 : decode cX8_make 113 = .ok (.iload_n 2, 1) := by decide +kernel
theorem dX8_make_114 : decode cX8_make 114 = .ok (.iaload, 1) := by decide +kernel
theorem dX8_make_115 : decode cX8_make 115 = .ok (.iastore, 1) := by decide +kernel
theorem dX8_make_116 : decode cX8_make 116 = .ok (.iconst 0, 1) := by decide +kernel
theorem dX8_make_117 : decode cX8_make 117 = .ok (.istore_n 3, 1) := by decide +kernel
theorem dX8_make_118 : decode cX8_make 118 = .ok (.iload_n 3, 1) := by decide +kernel
theorem dX8_make_119 : decode cX8_make 119 = .ok (.aload_n 0, 1) := by decide +kernel
theorem dX8_make_120 : decode cX8_make 120 = .ok (.getfield 200, 3) := by decide +kernel
theorem dX8_make_123 : decode cX8_make 123 = .ok (.if_icmp .ge 98, 3) := by decide +kernel
theorem dX8_make_126 : decode cX8_make 126 = .ok (.bipush 6, 2) := by decide +kernel
theorem dX8_make_128 : decode cX8_make 128 = .ok (.aload_n 0, 1) := by decide +kernel
theorem dX8_make_129 : decode cX8_make 129 = .ok (.getfield 210, 3) := by decide +kernel
theorem dX8_make_132 : decode cX8_make 132 = .ok (.imul, 1) := by decide +kernel
theorem dX8_make_133 : decode cX8_make 133 = .ok (.iload_n 3, 1) := by decide +kernel
theorem dX8_make_134 : decode cX8_make 134 = .ok (.iadd, 1) := by decide +kernel
theorem dX8_make_135 : decode cX8_make 135 = .ok (.istore 4, 2) := by decide +kernel
theorem dX8_make_137 : decode cX8_make 137 = .ok (.aload_n 0, 1) := by decide +kernel
theorem dX8_make_138 : decode cX8_make 138 = .ok (.getfield 80, 3) := by decide +kernel
theorem dX8_make_141 : decode cX8_make 141 = .ok (.iload 4, 2) := by decide +kernel
theorem dX8_make_143 : decode cX8_make 143 = .ok (.aload_n 0, 1) := by decide +kernel
theorem dX8_make_144 : decode cX8_make 144 = .ok (.getfield 56, 3) := by decide +kernel
theorem dX8_make_147 : decode cX8_make 147 = .ok (.iload_n 3, 1) := by decide +kernel
theorem dX8_make_148 : decode cX8_make 148 = .ok (.iaload, 1) := by decide +kernel
theorem dX8_make_149 : decode cX8_make 149 = .ok (.iastore, 1) := by decide +kernel
theorem dX8_make_150 : decode cX8_make 150 = .ok (.aload_n 0, 1) := by decide +kernel
theorem dX8_make_151 : decode cX8_make 151 = .ok (.getfield 83, 3) := by decide +kernel
theorem dX8_make_154 : decode cX8_make 154 = .ok (.iload 4, 2) := by decide +kernel
theorem dX8_make_156 : decode cX8_make 156 = .ok (.aload_n 0, 1) := by decide +kernel
theorem dX8_make_157 : decode cX8_make 157 = .ok (.getfield 59, 3) := by decide +kernel
theorem dX8_make_160 : decode cX8_make 160 = .ok (.iload_n 3, 1) := by decide +kernel
theorem dX8_make_161 : decode cX8_make 161 = .ok (.iaload, 1) := by decide +kernel
theorem dX8_make_162 : decode cX8_make 162 = .ok (.iastore, 1) := by decide +kernel
theorem dX8_make_163 : decode cX8_make 163 = .ok (.aload_n 0, 1) := by decide +kernel
theorem dX8_make_164 : decode cX8_make 164 = .ok (.getfield 86, 3) := by decide +kernel
theorem dX8_make_167 : decode cX8_make 167 = .ok (.iload 4, 2) := by decide +kernel
theorem dX8_make_169 : decode cX8_make 169 = .ok (.aload_n 0, 1) := by decide +kernel
theorem dX8_make_170 : decode cX8_make 170 = .ok (.getfield 62, 3) := by decide +kernel
theorem dX8_make_173 : decode cX8_make 173 = .ok (.iload_n 3, 1) := by decide +kernel
theorem dX8_make_174 : decode cX8_make 174 = .ok (.iaload, 1) := by decide +kernel
theorem dX8_make_175 : decode cX8_make 175 = .ok (.iastore, 1) := by decide +kernel
theorem dX8_make_176 : decode cX8_make 176 = .ok (.aload_n 0, 1) := by decide +kernel
theorem dX8_make_177 : decode cX8_make 177 = .ok (.getfield 89, 3) := by decide +kernel
theorem dX8_make_180 : decode cX8_make 180 = .ok (.iload 4, 2) := by decide +kernel
theorem dX8_make_182 : decode cX8_make 182 = .ok (.aload_n 0, 1) := by decide +kernel
theorem dX8_make_183 : decode cX8_make 183 = .ok (.iload_n 2, 1) := by decide +kernel
theorem dX8_make_184 : decode cX8_make 184 = .ok (.aload_n 0, 1) := by decide +kernel
theorem dX8_make_185 : decode cX8_make 185 = .ok (.getfield 56, 3) := by decide +kernel
theorem dX8_make_188 : decode cX8_make 188 = .ok (.iload_n 3, 1) := by decide +kernel
theorem dX8_make_189 : decode cX8_make 189 = .ok (.iaload, 1) := by decide +kernel
theorem dX8_make_190 : decode cX8_make 190 = .ok (.aload_n 0, 1) := by decide +kernel
theorem dX8_make_191 : decode cX8_make 191 = .ok (.getfield 187, 3) := by decide +kernel
theorem dX8_make_194 : decode cX8_make 194 = .ok (.invokevirtual 196, 3) := by decide +kernel
theorem dX8_make_197 : decode cX8_make 197 = .ok (.iastore, 1) := by decide +kernel
theorem dX8_make_198 : decode cX8_make 198 = .ok (.aload_n 0, 1) := by decide +kernel
theorem dX8_make_199 : decode cX8_make 199 = .ok (.getfield 98, 3) := by decide +kernel
theorem dX8_make_202 : decode cX8_make 202 = .ok (.iload_n 3, 1) := by decide +kernel
theorem dX8_make_203 : decode cX8_make 203 = .ok (.aload_n 0, 1) := by decide +kernel
theorem dX8_make_204 : decode cX8_make 204 = .ok (.aload_n 0, 1) := by decide +kernel
theorem dX8_make_205 : decode cX8_make 205 = .ok (.getfield 89, 3) := by decide +kernel
theorem dX8_make_208 : decode cX8_make 208 = .ok (.iload 4, 2) := by decide +kernel
theorem dX8_make_210 : decode cX8_make 210 = .ok (.iaload, 1) := by decide +kernel
theorem dX8_make_211 : decode cX8_make 211 = .ok (.invokevirtual 213, 3) := by decide +kernel
theorem dX8_make_214 : decode cX8_make 214 = .ok (.iastore, 1) := by decide +kernel
theorem dX8_make_215 : decode cX8_make 215 = .ok (.iinc 3 1, 3) := by decide +kernel
theorem dX8_make_218 : decode cX8_make 218 = .ok (.goto (-100), 3) := by decide +kernel
theorem dX8_make_221 : decode cX8_make 221 = .ok (.aload_n 0, 1) := by decide +kernel
theorem dX8_make_222 : decode cX8_make 222 = .ok (.getfield 92, 3) := by decide +kernel
theorem dX8_make_225 : decode cX8_make 225 = .ok (.aload_n 0, 1) := by decide +kernel
theorem dX8_make_226 : decode cX8_make 226 = .ok (.getfield 210, 3) := by decide +kernel
theorem dX8_make_229 : decode cX8_make 229 = .ok (.aload_n 0, 1) := by decide +kernel
theorem dX8_make_230 : decode cX8_make 230 = .ok (.aload_n 0, 1) := by decide +kernel
theorem dX8_make_231 : decode cX8_make 231 = .ok (.getfield 210, 3) := by decide +kernel
theorem dX8_make_234 : decode cX8_make 234 = .ok (.invokevirtual 216, 3) := by decide +kernel
theorem dX8_make_237 : decode cX8_make 237 = .ok (.iastore, 1) := by decide +kernel
theorem dX8_make_238 : decode cX8_make 238 = .ok (.aload_n 0, 1) := by decide +kernel
theorem dX8_make_239 : decode cX8_make 239 = .ok (.iconst 0, 1) := by decide +kernel
theorem dX8_make_240 : decode cX8_make 240 = .ok (.putfield 200, 3) := by decide +kernel
theorem dX8_make_243 : decode cX8_make 243 = .ok (.aload_n 0, 1) := by decide +kernel
theorem dX8_make_244 : decode cX8_make 244 = .ok (.dup, 1) := by decide +kernel
theorem dX8_make_245 : decode cX8_make 245 = .ok (.getfield 210, 3) := by decide +kernel
theorem dX8_make_248 : decode cX8_make 248 = .ok (.iconst 1, 1) := by decide +kernel
theorem dX8_make_249 : decode cX8_make 249 = .ok (.iadd, 1) := by decide +kernel
theorem dX8_make_250 : decode cX8_make 250 = .ok (.putfield 210, 3) := by decide +kernel
theorem dX8_make_253 : decode cX8_make 253 = .ok (.aload_n 0, 1) := by decide +kernel
theorem dX8_make_254 : decode cX8_make 254 = .ok (.getfield 210, 3) := by decide +kernel
theorem dX8_make_257 : decode cX8_make 257 = .ok (.iconst 1, 1) := by decide +kernel
theorem dX8_make_258 : decode cX8_make 258 = .ok (.isub, 1) := by decide +kernel
theorem dX8_make_259 : decode cX8_make 259 = .ok (.ireturn, 1) := by decide +kernel
theorem dX8_isInvoice_0 : decode cX8_isInvoice 0 = .ok (.iload_n 1, 1) := by decide +kernel
theorem dX8_isInvoice_1 : decode cX8_isInvoice 1 = .ok (.iconst 0, 1) := by decide +kernel
theorem dX8_isInvoice_2 : decode cX8_isInvoice 2 = .ok (.aload_n 0, 1) := by decide +kernel
theorem dX8_isInvoice_3 : decode cX8_isInvoice 3 = .ok (.getfield 210, 3) := by decide +kernel
theorem dX8_isInvoice_6 : decode cX8_isInvoice 6 = .ok (.iconst 1, 1) := by decide +kernel
theorem dX8_isInvoice_7 : decode cX8_isInvoice 7 = .ok (.isub, 1) := by decide +kernel
theorem dX8_isInvoice_8 : decode cX8_isInvoice 8 = .ok (.invokestatic 120, 3) := by decide +kernel
theorem dX8_isInvoice_11 : decode cX8_isInvoice 11 = .ok (.ireturn, 1) := by decide +kernel
theorem dX8_sumOf_0 : decode cX8_sumOf 0 = .ok (.iconst 0, 1) := by decide +kernel
theorem dX8_sumOf_1 : decode cX8_sumOf 1 = .ok (.istore_n 2, 1) := by decide +kernel
theorem dX8_sumOf_2 : decode cX8_sumOf 2 = .ok (.iconst 0, 1) := by decide +kernel
theorem dX8_sumOf_3 : decode cX8_sumOf 3 = .ok (.istore_n 3, 1) := by decide +kernel
theorem dX8_sumOf_4 : decode cX8_sumOf 4 = .ok (.iload_n 3, 1) := by decide +kernel
theorem dX8_sumOf_5 : decode cX8_sumOf 5 = .ok (.aload_n 0, 1) := by decide +kernel
theorem dX8_sumOf_6 : decode cX8_sumOf 6 = .ok (.getfield 71, 3) := by decide +kernel
theorem dX8_sumOf_9 : decode cX8_sumOf 9 = .ok (.iload_n 1, 1) := by decide +kernel
theorem dX8_sumOf_10 : decode cX8_sumOf 10 = .ok (.iaload, 1) := by decide +kernel
theorem dX8_sumOf_11 : decode cX8_sumOf 11 = .ok (.if_icmp .ge 18, 3) := by decide +kernel
theorem dX8_sumOf_14 : decode cX8_sumOf 14 = .ok (.iload_n 2, 1) := by decide +kernel
theorem dX8_sumOf_15 : decode cX8_sumOf 15 = .ok (.aload_n 0, 1) := by decide +kernel
theorem dX8_sumOf_16 : decode cX8_sumOf 16 = .ok (.iload_n 1, 1) := by decide +kernel
theorem dX8_sumOf_17 : decode cX8_sumOf 17 = .ok (.iload_n 3, 1) := by decide +kernel
theorem dX8_sumOf_18 : decode cX8_sumOf 18 = .ok (.invokevirtual 203, 3) := by decide +kernel
theorem dX8_sumOf_21 : decode cX8_sumOf 21 = .ok (.iadd, 1) := by decide +kernel
theorem dX8_sumOf_22 : decode cX8_sumOf 22 = .ok (.istore_n 2, 1) := by decide +kernel
theorem dX8_sumOf_23 : decode cX8_sumOf 23 = .ok (.iinc 3 1, 3) := by decide +kernel
theorem dX8_sumOf_26 : decode cX8_sumOf 26 = .ok (.goto (-22), 3) := by decide +kernel
theorem dX8_sumOf_29 : decode cX8_sumOf 29 = .ok (.iload_n 2, 1) := by decide +kernel
theorem dX8_sumOf_30 : decode cX8_sumOf 30 = .ok (.ireturn, 1) := by decide +kernel
theorem dX8_taxed_0 : decode cX8_taxed 0 = .ok (.aload_n 0, 1) := by decide +kernel
theorem dX8_taxed_1 : decode cX8_taxed 1 = .ok (.getfield 92, 3) := by decide +kernel
theorem dX8_taxed_4 : decode cX8_taxed 4 = .ok (.iload_n 1, 1) := by decide +kernel
theorem dX8_taxed_5 : decode cX8_taxed 5 = .ok (.iaload, 1) := by decide +kernel
theorem dX8_taxed_6 : decode cX8_taxed 6 = .ok (.istore_n 2, 1) := by decide +kernel
theorem dX8_taxed_7 : decode cX8_taxed 7 = .ok (.iconst 0, 1) := by decide +kernel
theorem dX8_taxed_8 : decode cX8_taxed 8 = .ok (.istore_n 3, 1) := by decide +kernel
theorem dX8_taxed_9 : decode cX8_taxed 9 = .ok (.iload_n 3, 1) := by decide +kernel
theorem dX8_taxed_10 : decode cX8_taxed 10 = .ok (.aload_n 0, 1) := by decide +kernel
theorem dX8_taxed_11 : decode cX8_taxed 11 = .ok (.getfield 219, 3) := by decide +kernel
theorem dX8_taxed_14 : decode cX8_taxed 14 = .ok (.if_icmp .ge 32, 3) := by decide +kernel
theorem dX8_taxed_17 : decode cX8_taxed 17 = .ok (.iload_n 2, 1) := by decide +kernel
theorem dX8_taxed_18 : decode cX8_taxed 18 = .ok (.aload_n 0, 1) := by decide +kernel
theorem dX8_taxed_19 : decode cX8_taxed 19 = .ok (.getfield 101, 3) := by decide +kernel
theorem dX8_taxed_22 : decode cX8_taxed 22 = .ok (.iload_n 3, 1) := by decide +kernel
theorem dX8_taxed_23 : decode cX8_taxed 23 = .ok (.iaload, 1) := by decide +kernel
theorem dX8_taxed_24 : decode cX8_taxed 24 = .ok (.iload_n 1, 1) := by decide +kernel
theorem dX8_taxed_25 : decode cX8_taxed 25 = .ok (.if_icmp .ne 12, 3) := by decide +kernel
theorem dX8_taxed_28 : decode cX8_taxed 28 = .ok (.aload_n 0, 1) := by decide +kernel
theorem dX8_taxed_29 : decode cX8_taxed 29 = .ok (.getfield 104, 3) := by decide +kernel
theorem dX8_taxed_32 : decode cX8_taxed 32 = .ok (.iload_n 3, 1) := by decide +kernel
theorem dX8_taxed_33 : decode cX8_taxed 33 = .ok (.iaload, 1) := by decide +kernel
theorem dX8_taxed_34 : decode cX8_taxed 34 = .ok (.goto 4, 3) := by decide +kernel
theorem dX8_taxed_37 : decode cX8_taxed 37 = .ok (.iconst 0, 1) := by decide +kernel
theorem dX8_taxed_38 : decode cX8_taxed 38 = .ok (.iadd, 1) := by decide +kernel
theorem dX8_taxed_39 : decode cX8_taxed 39 = .ok (.istore_n 2, 1) := by decide +kernel
theorem dX8_taxed_40 : decode cX8_taxed 40 = .ok (.iinc 3 1, 3) := by decide +kernel
theorem dX8_taxed_43 : decode cX8_taxed 43 = .ok (.goto (-34), 3) := by decide +kernel
theorem dX8_taxed_46 : decode cX8_taxed 46 = .ok (.iload_n 2, 1) := by decide +kernel
theorem dX8_taxed_47 : decode cX8_taxed 47 = .ok (.ireturn, 1) := by decide +kernel
theorem dX8_invoice_0 : decode cX8_invoice 0 = .ok (.aload_n 0, 1) := by decide +kernel
theorem dX8_invoice_1 : decode cX8_invoice 1 = .ok (.aload_n 0, 1) := by decide +kernel
theorem dX8_invoice_2 : decode cX8_invoice 2 = .ok (.iload_n 1, 1) := by decide +kernel
theorem dX8_invoice_3 : decode cX8_invoice 3 = .ok (.invokevirtual 222, 3) := by decide +kernel
theorem dX8_invoice_6 : decode cX8_invoice 6 = .ok (.ifCond .ne 7, 3) := by decide +kernel
theorem dX8_invoice_9 : decode cX8_invoice 9 = .ok (.iconst 1, 1) := by decide +kernel
theorem dX8_invoice_10 : decode cX8_invoice 10 = .ok (.goto 18, 3) := by decide +kernel
theorem dX8_invoice_13 : decode cX8_invoice 13 = .ok (.iload_n 2, 1) := by decide +kernel
theorem dX8_invoice_14 : decode cX8_invoice 14 = .ok (.iconst 0, 1) := by decide +kernel
theorem dX8_invoice_15 : decode cX8_invoice 15 = .ok (.bipush 7, 2) := by decide +kernel
theorem dX8_invoice_17 : decode cX8_invoice 17 = .ok (.invokestatic 120, 3) := by decide +kernel
theorem dX8_invoice_20 : decode cX8_invoice 20 = .ok (.ifCond .ne 7, 3) := by decide +kernel
theorem dX8_invoice_23 : decode cX8_invoice 23 = .ok (.iconst 2, 1) := by decide +kernel
theorem dX8_invoice_24 : decode cX8_invoice 24 = .ok (.goto 4, 3) := by decide +kernel
theorem dX8_invoice_27 : decode cX8_invoice 27 = .ok (.iconst 0, 1) := by decide +kernel
theorem dX8_invoice_28 : decode cX8_invoice 28 = .ok (.putfield 110, 3) := by decide +kernel
theorem dX8_invoice_31 : decode cX8_invoice 31 = .ok (.aload_n 0, 1) := by decide +kernel
theorem dX8_invoice_32 : decode cX8_invoice 32 = .ok (.getfield 110, 3) := by decide +kernel
theorem dX8_invoice_35 : decode cX8_invoice 35 = .ok (.ifCond .le 5, 3) := by decide +kernel
theorem dX8_invoice_38 : decode cX8_invoice 38 = .ok (.iconst 0, 1) := by decide +kernel
theorem dX8_invoice_39 : decode cX8_invoice 39 = .ok (.ireturn, 1) := by decide +kernel
theorem dX8_invoice_40 : decode cX8_invoice 40 = .ok (.iload_n 2, 1) := by decide +kernel
theorem dX8_invoice_41 : decode cX8_invoice 41 = .ok (.tableswitch 90 0 6 #[43, 50, 57, 64, 70, 77, 83], 43) := by decide +kernel
theorem dX8_invoice_84 : decode cX8_invoice 84 = .ok (.aload_n 0, 1) := by decide +kernel
theorem dX8_invoice_85 : decode cX8_invoice 85 = .ok (.getfield 65, 3) := by decide +kernel
theorem dX8_invoice_88 : decode cX8_invoice 88 = .ok (.iload_n 1, 1) := by decide +kernel
theorem dX8_invoice_89 : decode cX8_invoice 89 = .ok (.iaload, 1) := by decide +kernel
theorem dX8_invoice_90 : decode cX8_invoice 90 = .ok (.ireturn, 1) := by decide +kernel
theorem dX8_invoice_91 : decode cX8_invoice 91 = .ok (.aload_n 0, 1) := by decide +kernel
theorem dX8_invoice_92 : decode cX8_invoice 92 = .ok (.getfield 68, 3) := by decide +kernel
theorem dX8_invoice_95 : decode cX8_invoice 95 = .ok (.iload_n 1, 1) := by decide +kernel
theorem dX8_invoice_96 : decode cX8_invoice 96 = .ok (.iaload, 1) := by decide +kernel
theorem dX8_invoice_97 : decode cX8_invoice 97 = .ok (.ireturn, 1) := by decide +kernel
theorem dX8_invoice_98 : decode cX8_invoice 98 = .ok (.aload_n 0, 1) := by decide +kernel
theorem dX8_invoice_99 : decode cX8_invoice 99 = .ok (.getfield 71, 3) := by decide +kernel
theorem dX8_invoice_102 : decode cX8_invoice 102 = .ok (.iload_n 1, 1) := by decide +kernel
theorem dX8_invoice_103 : decode cX8_invoice 103 = .ok (.iaload, 1) := by decide +kernel
theorem dX8_invoice_104 : decode cX8_invoice 104 = .ok (.ireturn, 1) := by decide +kernel
theorem dX8_invoice_105 : decode cX8_invoice 105 = .ok (.aload_n 0, 1) := by decide +kernel
theorem dX8_invoice_106 : decode cX8_invoice 106 = .ok (.iload_n 1, 1) := by decide +kernel
theorem dX8_invoice_107 : decode cX8_invoice 107 = .ok (.invokevirtual 225, 3) := by decide +kernel
theorem dX8_invoice_110 : decode cX8_invoice 110 = .ok (.ireturn, 1) := by decide +kernel
theorem dX8_invoice_111 : decode cX8_invoice 111 = .ok (.aload_n 0, 1) := by decide +kernel
theorem dX8_invoice_112 : decode cX8_invoice 112 = .ok (.getfield 92, 3) := by decide +kernel
theorem dX8_invoice_115 : decode cX8_invoice 115 = .ok (.iload_n 1, 1) := by decide +kernel
theorem dX8_invoice_116 : decode cX8_invoice 116 = .ok (.iaload, 1) := by decide +kernel
theorem dX8_invoice_117 : decode cX8_invoice 117 = .ok (.ireturn, 1) := by decide +kernel
theorem dX8_invoice_118 : decode cX8_invoice 118 = .ok (.aload_n 0, 1) := by decide +kernel
theorem dX8_invoice_119 : decode cX8_invoice 119 = .ok (.iload_n 1, 1) := by decide +kernel
theorem dX8_invoice_120 : decode cX8_invoice 120 = .ok (.invokevirtual 228, 3) := by decide +kernel
theorem dX8_invoice_123 : decode cX8_invoice 123 = .ok (.ireturn, 1) := by decide +kernel
theorem dX8_invoice_124 : decode cX8_invoice 124 = .ok (.aload_n 0, 1) := by decide +kernel
theorem dX8_invoice_125 : decode cX8_invoice 125 = .ok (.getfield 74, 3) := by decide +kernel
theorem dX8_invoice_128 : decode cX8_invoice 128 = .ok (.iload_n 1, 1) := by decide +kernel
theorem dX8_invoice_129 : decode cX8_invoice 129 = .ok (.iaload, 1) := by decide +kernel
theorem dX8_invoice_130 : decode cX8_invoice 130 = .ok (.ireturn, 1) := by decide +kernel
theorem dX8_invoice_131 : decode cX8_invoice 131 = .ok (.aload_n 0, 1) := by decide +kernel
theorem dX8_invoice_132 : decode cX8_invoice 132 = .ok (.getfield 77, 3) := by decide +kernel
theorem dX8_invoice_135 : decode cX8_invoice 135 = .ok (.iload_n 1, 1) := by decide +kernel
theorem dX8_invoice_136 : decode cX8_invoice 136 = .ok (.iaload, 1) := by decide +kernel
theorem dX8_invoice_137 : decode cX8_invoice 137 = .ok (.ireturn, 1) := by decide +kernel
theorem dX8_taxNow_0 : decode cX8_taxNow 0 = .ok (.iconst 0, 1) := by decide +kernel
theorem dX8_taxNow_1 : decode cX8_taxNow 1 = .ok (.istore_n 2, 1) := by decide +kernel
theorem dX8_taxNow_2 : decode cX8_taxNow 2 = .ok (.iload_n 2, 1) := by decide +kernel
theorem dX8_taxNow_3 : decode cX8_taxNow 3 = .ok (.aload_n 0, 1) := by decide +kernel
theorem dX8_taxNow_4 : decode cX8_taxNow 4 = .ok (.getfield 71, 3) := by decide +kernel
theorem dX8_taxNow_7 : decode cX8_taxNow 7 = .ok (.iload_n 1, 1) := by decide +kernel
theorem dX8_taxNow_8 : decode cX8_taxNow 8 = .ok (.iaload, 1) := by decide +kernel
theorem dX8_taxNow_9 : decode cX8_taxNow 9 = .ok (.if_icmp .ge 46, 3) := by decide +kernel
theorem dX8_taxNow_12 : decode cX8_taxNow 12 = .ok (.aload_n 0, 1) := by decide +kernel
theorem dX8_taxNow_13 : decode cX8_taxNow 13 = .ok (.getfield 98, 3) := by decide +kernel
theorem dX8_taxNow_16 : decode cX8_taxNow 16 = .ok (.iload_n 2, 1) := by decide +kernel
theorem dX8_taxNow_17 : decode cX8_taxNow 17 = .ok (.aload_n 0, 1) := by decide +kernel
theorem dX8_taxNow_18 : decode cX8_taxNow 18 = .ok (.aload_n 0, 1) := by decide +kernel
theorem dX8_taxNow_19 : decode cX8_taxNow 19 = .ok (.aload_n 0, 1) := by decide +kernel
theorem dX8_taxNow_20 : decode cX8_taxNow 20 = .ok (.getfield 74, 3) := by decide +kernel
theorem dX8_taxNow_23 : decode cX8_taxNow 23 = .ok (.iload_n 1, 1) := by decide +kernel
theorem dX8_taxNow_24 : decode cX8_taxNow 24 = .ok (.iaload, 1) := by decide +kernel
theorem dX8_taxNow_25 : decode cX8_taxNow 25 = .ok (.aload_n 0, 1) := by decide +kernel
theorem dX8_taxNow_26 : decode cX8_taxNow 26 = .ok (.getfield 80, 3) := by decide +kernel
theorem dX8_taxNow_29 : decode cX8_taxNow 29 = .ok (.bipush 6, 2) := by decide +kernel
theorem dX8_taxNow_31 : decode cX8_taxNow 31 = .ok (.iload_n 1, 1) := by decide +kernel
theorem dX8_taxNow_32 : decode cX8_taxNow 32 = .ok (.imul, 1) := by decide +kernel
theorem dX8_taxNow_33 : decode cX8_taxNow 33 = .ok (.iload_n 2, 1) := by decide +kernel
theorem dX8_taxNow_34 : decode cX8_taxNow 34 = .ok (.iadd, 1) := by decide +kernel
theorem dX8_taxNow_35 : decode cX8_taxNow 35 = .ok (.iaload, 1) := by decide +kernel
theorem dX8_taxNow_36 : decode cX8_taxNow 36 = .ok (.aload_n 0, 1) := by decide +kernel
theorem dX8_taxNow_37 : decode cX8_taxNow 37 = .ok (.getfield 68, 3) := by decide +kernel
theorem dX8_taxNow_40 : decode cX8_taxNow 40 = .ok (.iload_n 1, 1) := by decide +kernel
theorem dX8_taxNow_41 : decode cX8_taxNow 41 = .ok (.iaload, 1) := by decide +kernel
theorem dX8_taxNow_42 : decode cX8_taxNow 42 = .ok (.invokevirtual 196, 3) := by decide +kernel
theorem dX8_taxNow_45 : decode cX8_taxNow 45 = .ok (.invokevirtual 213, 3) := by decide +kernel
theorem dX8_taxNow_48 : decode cX8_taxNow 48 = .ok (.iastore, 1) := by decide +kernel
theorem dX8_taxNow_49 : decode cX8_taxNow 49 = .ok (.iinc 2 1, 3) := by decide +kernel
theorem dX8_taxNow_52 : decode cX8_taxNow 52 = .ok (.goto (-50), 3) := by decide +kernel
theorem dX8_taxNow_55 : decode cX8_taxNow 55 = .ok (.aload_n 0, 1) := by decide +kernel
theorem dX8_taxNow_56 : decode cX8_taxNow 56 = .ok (.iload_n 1, 1) := by decide +kernel
theorem dX8_taxNow_57 : decode cX8_taxNow 57 = .ok (.invokevirtual 216, 3) := by decide +kernel
theorem dX8_taxNow_60 : decode cX8_taxNow 60 = .ok (.ireturn, 1) := by decide +kernel
theorem dX8_taxAnew_0 : decode cX8_taxAnew 0 = .ok (.aload_n 0, 1) := by decide +kernel
theorem dX8_taxAnew_1 : decode cX8_taxAnew 1 = .ok (.aload_n 0, 1) := by decide +kernel
theorem dX8_taxAnew_2 : decode cX8_taxAnew 2 = .ok (.iload_n 1, 1) := by decide +kernel
theorem dX8_taxAnew_3 : decode cX8_taxAnew 3 = .ok (.invokevirtual 222, 3) := by decide +kernel
theorem dX8_taxAnew_6 : decode cX8_taxAnew 6 = .ok (.ifCond .eq 7, 3) := by decide +kernel
theorem dX8_taxAnew_9 : decode cX8_taxAnew 9 = .ok (.iconst 0, 1) := by decide +kernel
theorem dX8_taxAnew_10 : decode cX8_taxAnew 10 = .ok (.goto 4, 3) := by decide +kernel
theorem dX8_taxAnew_13 : decode cX8_taxAnew 13 = .ok (.iconst 1, 1) := by decide +kernel
theorem dX8_taxAnew_14 : decode cX8_taxAnew 14 = .ok (.putfield 110, 3) := by decide +kernel
theorem dX8_taxAnew_17 : decode cX8_taxAnew 17 = .ok (.aload_n 0, 1) := by decide +kernel
theorem dX8_taxAnew_18 : decode cX8_taxAnew 18 = .ok (.getfield 110, 3) := by decide +kernel
theorem dX8_taxAnew_21 : decode cX8_taxAnew 21 = .ok (.ifCond .le 7, 3) := by decide +kernel
theorem dX8_taxAnew_24 : decode cX8_taxAnew 24 = .ok (.iconst 0, 1) := by decide +kernel
theorem dX8_taxAnew_25 : decode cX8_taxAnew 25 = .ok (.goto 8, 3) := by decide +kernel
theorem dX8_taxAnew_28 : decode cX8_taxAnew 28 = .ok (.aload_n 0, 1) := by decide +kernel
theorem dX8_taxAnew_29 : decode cX8_taxAnew 29 = .ok (.iload_n 1, 1) := by decide +kernel
theorem dX8_taxAnew_30 : decode cX8_taxAnew 30 = .ok (.invokevirtual 231, 3) := by decide +kernel
theorem dX8_taxAnew_33 : decode cX8_taxAnew 33 = .ok (.ireturn, 1) := by decide +kernel
theorem dX8_used_0 : decode cX8_used 0 = .ok (.aload_n 0, 1) := by decide +kernel
theorem dX8_used_1 : decode cX8_used 1 = .ok (.aload_n 0, 1) := by decide +kernel
theorem dX8_used_2 : decode cX8_used 2 = .ok (.iload_n 1, 1) := by decide +kernel
theorem dX8_used_3 : decode cX8_used 3 = .ok (.invokevirtual 222, 3) := by decide +kernel
theorem dX8_used_6 : decode cX8_used 6 = .ok (.ifCond .eq 23, 3) := by decide +kernel
theorem dX8_used_9 : decode cX8_used 9 = .ok (.iload_n 2, 1) := by decide +kernel
theorem dX8_used_10 : decode cX8_used 10 = .ok (.iconst 0, 1) := by decide +kernel
theorem dX8_used_11 : decode cX8_used 11 = .ok (.aload_n 0, 1) := by decide +kernel
theorem dX8_used_12 : decode cX8_used 12 = .ok (.getfield 71, 3) := by decide +kernel
theorem dX8_used_15 : decode cX8_used 15 = .ok (.iload_n 1, 1) := by decide +kernel
theorem dX8_used_16 : decode cX8_used 16 = .ok (.iaload, 1) := by decide +kernel
theorem dX8_used_17 : decode cX8_used 17 = .ok (.iconst 1, 1) := by decide +kernel
theorem dX8_used_18 : decode cX8_used 18 = .ok (.isub, 1) := by decide +kernel
theorem dX8_used_19 : decode cX8_used 19 = .ok (.invokestatic 120, 3) := by decide +kernel
theorem dX8_used_22 : decode cX8_used 22 = .ok (.ifCond .eq 7, 3) := by decide +kernel
theorem dX8_used_25 : decode cX8_used 25 = .ok (.iconst 0, 1) := by decide +kernel
theorem dX8_used_26 : decode cX8_used 26 = .ok (.goto 4, 3) := by decide +kernel
theorem dX8_used_29 : decode cX8_used 29 = .ok (.iconst 1, 1) := by decide +kernel
theorem dX8_used_30 : decode cX8_used 30 = .ok (.putfield 110, 3) := by decide +kernel
theorem dX8_used_33 : decode cX8_used 33 = .ok (.aload_n 0, 1) := by decide +kernel
theorem dX8_used_34 : decode cX8_used 34 = .ok (.getfield 110, 3) := by decide +kernel
theorem dX8_used_37 : decode cX8_used 37 = .ok (.ifCond .le 7, 3) := by decide +kernel
theorem dX8_used_40 : decode cX8_used 40 = .ok (.iconst 0, 1) := by decide +kernel
theorem dX8_used_41 : decode cX8_used 41 = .ok (.goto 14, 3) := by decide +kernel
theorem dX8_used_44 : decode cX8_used 44 = .ok (.aload_n 0, 1) := by decide +kernel
theorem dX8_used_45 : decode cX8_used 45 = .ok (.getfield 89, 3) := by decide +kernel
theorem dX8_used_48 : decode cX8_used 48 = .ok (.bipush 6, 2) := by decide +kernel
theorem dX8_used_50 : decode cX8_used 50 = .ok (.iload_n 1, 1) := by decide +kernel
theorem dX8_used_51 : decode cX8_used 51 = .ok (.imul, 1) := by decide +kernel
theorem dX8_used_52 : decode cX8_used 52 = .ok (.iload_n 2, 1) := by decide +kernel
theorem dX8_used_53 : decode cX8_used 53 = .ok (.iadd, 1) := by decide +kernel
theorem dX8_used_54 : decode cX8_used 54 = .ok (.iaload, 1) := by decide +kernel
theorem dX8_used_55 : decode cX8_used 55 = .ok (.ireturn, 1) := by decide +kernel
theorem dX8_nameOf_0 : decode cX8_nameOf 0 = .ok (.bipush 6, 2) := by decide +kernel
theorem dX8_nameOf_2 : decode cX8_nameOf 2 = .ok (.iload_n 1, 1) := by decide +kernel
theorem dX8_nameOf_3 : decode cX8_nameOf 3 = .ok (.imul, 1) := by decide +kernel
theorem dX8_nameOf_4 : decode cX8_nameOf 4 = .ok (.aload_n 0, 1) := by decide +kernel
theorem dX8_nameOf_5 : decode cX8_nameOf 5 = .ok (.getfield 234, 3) := by decide +kernel
theorem dX8_nameOf_8 : decode cX8_nameOf 8 = .ok (.iconst (-1), 1) := by decide +kernel
theorem dX8_nameOf_9 : decode cX8_nameOf 9 = .ok (.if_icmp .ne 7, 3) := by decide +kernel
theorem dX8_nameOf_12 : decode cX8_nameOf 12 = .ok (.iconst 0, 1) := by decide +kernel
theorem dX8_nameOf_13 : decode cX8_nameOf 13 = .ok (.goto 7, 3) := by decide +kernel
theorem dX8_nameOf_16 : decode cX8_nameOf 16 = .ok (.aload_n 0, 1) := by decide +kernel
theorem dX8_nameOf_17 : decode cX8_nameOf 17 = .ok (.getfield 234, 3) := by decide +kernel
theorem dX8_nameOf_20 : decode cX8_nameOf 20 = .ok (.iadd, 1) := by decide +kernel
theorem dX8_nameOf_21 : decode cX8_nameOf 21 = .ok (.istore_n 3, 1) := by decide +kernel
theorem dX8_nameOf_22 : decode cX8_nameOf 22 = .ok (.iload_n 2, 1) := by decide +kernel
theorem dX8_nameOf_23 : decode cX8_nameOf 23 = .ok (.tableswitch 180 97 116 #[170, 180, 95, 102, 180, 180, 129, 180, 142, 180, 149, 109, 180, 93, 180, 163, 156, 180, 116, 122], 93) := by decide +kernel
theorem dX8_nameOf_116 : decode cX8_nameOf 116 = .ok (.iload_n 1, 1) := by decide +kernel
theorem dX8_nameOf_117 : decode cX8_nameOf 117 = .ok (.ireturn, 1) := by decide +kernel
theorem dX8_nameOf_118 : decode cX8_nameOf 118 = .ok (.aload_n 0, 1) := by decide +kernel
theorem dX8_nameOf_119 : decode cX8_nameOf 119 = .ok (.getfield 65, 3) := by decide +kernel
theorem dX8_nameOf_122 : decode cX8_nameOf 122 = .ok (.iload_n 1, 1) := by decide +kernel
theorem dX8_nameOf_123 : decode cX8_nameOf 123 = .ok (.iaload, 1) := by decide +kernel
theorem dX8_nameOf_124 : decode cX8_nameOf 124 = .ok (.ireturn, 1) := by decide +kernel
theorem dX8_nameOf_125 : decode cX8_nameOf 125 = .ok (.aload_n 0, 1) := by decide +kernel
theorem dX8_nameOf_126 : decode cX8_nameOf 126 = .ok (.getfield 68, 3) := by decide +kernel
theorem dX8_nameOf_129 : decode cX8_nameOf 129 = .ok (.iload_n 1, 1) := by decide +kernel
theorem dX8_nameOf_130 : decode cX8_nameOf 130 = .ok (.iaload, 1) := by decide +kernel
theorem dX8_nameOf_131 : decode cX8_nameOf 131 = .ok (.ireturn, 1) := by decide +kernel
theorem dX8_nameOf_132 : decode cX8_nameOf 132 = .ok (.aload_n 0, 1) := by decide +kernel
theorem dX8_nameOf_133 : decode cX8_nameOf 133 = .ok (.getfield 71, 3) := by decide +kernel
theorem dX8_nameOf_136 : decode cX8_nameOf 136 = .ok (.iload_n 1, 1) := by decide +kernel
theorem dX8_nameOf_137 : decode cX8_nameOf 137 = .ok (.iaload, 1) := by decide +kernel
theorem dX8_nameOf_138 : decode cX8_nameOf 138 = .ok (.ireturn, 1) := by decide +kernel
theorem dX8_nameOf_139 : decode cX8_nameOf 139 = .ok (.aload_n 0, 1) := by decide +kernel
theorem dX8_nameOf_140 : decode cX8_nameOf 140 = .ok (.iload_n 1, 1) := by decide +kernel
theorem dX8_nameOf_141 : decode cX8_nameOf 141 = .ok (.invokevirtual 225, 3) := by decide +kernel
theorem dX8_nameOf_144 : decode cX8_nameOf 144 = .ok (.ireturn, 1) := by decide +kernel
theorem dX8_nameOf_145 : decode cX8_nameOf 145 = .ok (.aload_n 0, 1) := by decide +kernel
theorem dX8_nameOf_146 : decode cX8_nameOf 146 = .ok (.getfield 92, 3) := by decide +kernel
theorem dX8_nameOf_149 : decode cX8_nameOf 149 = .ok (.iload_n 1, 1) := by decide +kernel
theorem dX8_nameOf_150 : decode cX8_nameOf 150 = .ok (.iaload, 1) := by decide +kernel
theorem dX8_nameOf_151 : decode cX8_nameOf 151 = .ok (.ireturn, 1) := by decide +kernel
theorem dX8_nameOf_152 : decode cX8_nameOf 152 = .ok (.aload_n 0, 1) := by decide +kernel
theorem dX8_nameOf_153 : decode cX8_nameOf 153 = .ok (.iload_n 1, 1) := by decide +kernel
theorem dX8_nameOf_154 : decode cX8_nameOf 154 = .ok (.invokevirtual 225, 3) := by decide +kernel
theorem dX8_nameOf_157 : decode cX8_nameOf 157 = .ok (.aload_n 0, 1) := by decide +kernel
theorem dX8_nameOf_158 : decode cX8_nameOf 158 = .ok (.getfield 92, 3) := by decide +kernel
theorem dX8_nameOf_161 : decode cX8_nameOf 161 = .ok (.iload_n 1, 1) := by decide +kernel
theorem dX8_nameOf_162 : decode cX8_nameOf 162 = .ok (.iaload, 1) := by decide +kernel
theorem dX8_nameOf_163 : decode cX8_nameOf 163 = .ok (.iadd, 1) := by decide +kernel
theorem dX8_nameOf_164 : decode cX8_nameOf 164 = .ok (.ireturn, 1) := by decide +kernel
theorem dX8_nameOf_165 : decode cX8_nameOf 165 = .ok (.aload_n 0, 1) := by decide +kernel
theorem dX8_nameOf_166 : decode cX8_nameOf 166 = .ok (.getfield 234, 3) := by decide +kernel
theorem dX8_nameOf_169 : decode cX8_nameOf 169 = .ok (.iconst 1, 1) := by decide +kernel
theorem dX8_nameOf_170 : decode cX8_nameOf 170 = .ok (.iadd, 1) := by decide +kernel
theorem dX8_nameOf_171 : decode cX8_nameOf 171 = .ok (.ireturn, 1) := by decide +kernel
theorem dX8_nameOf_172 : decode cX8_nameOf 172 = .ok (.aload_n 0, 1) := by decide +kernel
theorem dX8_nameOf_173 : decode cX8_nameOf 173 = .ok (.getfield 80, 3) := by decide +kernel
theorem dX8_nameOf_176 : decode cX8_nameOf 176 = .ok (.iload_n 3, 1) := by decide +kernel
theorem dX8_nameOf_177 : decode cX8_nameOf 177 = .ok (.iaload, 1) := by decide +kernel
theorem dX8_nameOf_178 : decode cX8_nameOf 178 = .ok (.ireturn, 1) := by decide +kernel
theorem dX8_nameOf_179 : decode cX8_nameOf 179 = .ok (.aload_n 0, 1) := by decide +kernel
theorem dX8_nameOf_180 : decode cX8_nameOf 180 = .ok (.getfield 83, 3) := by decide +kernel
theorem dX8_nameOf_183 : decode cX8_nameOf 183 = .ok (.iload_n 3, 1) := by decide +kernel
theorem dX8_nameOf_184 : decode cX8_nameOf 184 = .ok (.iaload, 1) := by decide +kernel
theorem dX8_nameOf_185 : decode cX8_nameOf 185 = .ok (.ireturn, 1) := by decide +kernel
theorem dX8_nameOf_186 : decode cX8_nameOf 186 = .ok (.aload_n 0, 1) := by decide +kernel
theorem dX8_nameOf_187 : decode cX8_nameOf 187 = .ok (.getfield 86, 3) := by decide +kernel
theorem dX8_nameOf_190 : decode cX8_nameOf 190 = .ok (.iload_n 3, 1) := by decide +kernel
theorem dX8_nameOf_191 : decode cX8_nameOf 191 = .ok (.iaload, 1) := by decide +kernel
theorem dX8_nameOf_192 : decode cX8_nameOf 192 = .ok (.ireturn, 1) := by decide +kernel
theorem dX8_nameOf_193 : decode cX8_nameOf 193 = .ok (.aload_n 0, 1) := by decide +kernel
theorem dX8_nameOf_194 : decode cX8_nameOf 194 = .ok (.iload_n 1, 1) := by decide +kernel
theorem dX8_nameOf_195 : decode cX8_nameOf 195 = .ok (.aload_n 0, 1) := by decide +kernel
theorem dX8_nameOf_196 : decode cX8_nameOf 196 = .ok (.getfield 234, 3) := by decide +kernel
theorem dX8_nameOf_199 : decode cX8_nameOf 199 = .ok (.invokevirtual 203, 3) := by decide +kernel
theorem dX8_nameOf_202 : decode cX8_nameOf 202 = .ok (.ireturn, 1) := by decide +kernel
theorem dX8_nameOf_203 : decode cX8_nameOf 203 = .ok (.aload_n 0, 1) := by decide +kernel
theorem dX8_nameOf_204 : decode cX8_nameOf 204 = .ok (.iload_n 1, 1) := by decide +kernel
theorem dX8_nameOf_205 : decode cX8_nameOf 205 = .ok (.aload_n 0, 1) := by decide +kernel
theorem dX8_nameOf_206 : decode cX8_nameOf 206 = .ok (.getfield 234, 3) := by decide +kernel
theorem dX8_nameOf_209 : decode cX8_nameOf 209 = .ok (.invokevirtual 203, 3) := by decide +kernel
theorem dX8_nameOf_212 : decode cX8_nameOf 212 = .ok (.aload_n 0, 1) := by decide +kernel
theorem dX8_nameOf_213 : decode cX8_nameOf 213 = .ok (.aload_n 0, 1) := by decide +kernel
theorem dX8_nameOf_214 : decode cX8_nameOf 214 = .ok (.getfield 89, 3) := by decide +kernel
theorem dX8_nameOf_217 : decode cX8_nameOf 217 = .ok (.iload_n 3, 1) := by decide +kernel
theorem dX8_nameOf_218 : decode cX8_nameOf 218 = .ok (.iaload, 1) := by decide +kernel
theorem dX8_nameOf_219 : decode cX8_nameOf 219 = .ok (.invokevirtual 213, 3) := by decide +kernel
theorem dX8_nameOf_222 : decode cX8_nameOf 222 = .ok (.imul, 1) := by decide +kernel
theorem dX8_nameOf_223 : decode cX8_nameOf 223 = .ok (.invokestatic 207, 3) := by decide +kernel
theorem dX8_nameOf_226 : decode cX8_nameOf 226 = .ok (.ireturn, 1) := by decide +kernel
theorem dX8_puts_0 : decode cX8_puts 0 = .ok (.aload_n 0, 1) := by decide +kernel
theorem dX8_puts_1 : decode cX8_puts 1 = .ok (.aload_n 0, 1) := by decide +kernel
theorem dX8_puts_2 : decode cX8_puts 2 = .ok (.getfield 237, 3) := by decide +kernel
theorem dX8_puts_5 : decode cX8_puts 5 = .ok (.aload_n 0, 1) := by decide +kernel
theorem dX8_puts_6 : decode cX8_puts 6 = .ok (.getfield 240, 3) := by decide +kernel
theorem dX8_puts_9 : decode cX8_puts 9 = .ok (.if_icmp .ne 7, 3) := by decide +kernel
theorem dX8_puts_12 : decode cX8_puts 12 = .ok (.iload_n 1, 1) := by decide +kernel
theorem dX8_puts_13 : decode cX8_puts 13 = .ok (.goto 7, 3) := by decide +kernel
theorem dX8_puts_16 : decode cX8_puts 16 = .ok (.aload_n 0, 1) := by decide +kernel
theorem dX8_puts_17 : decode cX8_puts 17 = .ok (.getfield 243, 3) := by decide +kernel
theorem dX8_puts_20 : decode cX8_puts 20 = .ok (.putfield 243, 3) := by decide +kernel
theorem dX8_puts_23 : decode cX8_puts 23 = .ok (.aload_n 0, 1) := by decide +kernel
theorem dX8_puts_24 : decode cX8_puts 24 = .ok (.dup, 1) := by decide +kernel
theorem dX8_puts_25 : decode cX8_puts 25 = .ok (.getfield 237, 3) := by decide +kernel
theorem dX8_puts_28 : decode cX8_puts 28 = .ok (.iconst 1, 1) := by decide +kernel
theorem dX8_puts_29 : decode cX8_puts 29 = .ok (.iadd, 1) := by decide +kernel
theorem dX8_puts_30 : decode cX8_puts 30 = .ok (.putfield 237, 3) := by decide +kernel
theorem dX8_puts_33 : decode cX8_puts 33 = .ok (.return_, 1) := by decide +kernel
theorem dX8_putsNumber_0 : decode cX8_putsNumber 0 = .ok (.iload_n 1, 1) := by decide +kernel
theorem dX8_putsNumber_1 : decode cX8_putsNumber 1 = .ok (.ifCond .ge 8, 3) := by decide +kernel
theorem dX8_putsNumber_4 : decode cX8_putsNumber 4 = .ok (.iload_n 1, 1) := by decide +kernel
theorem dX8_putsNumber_5 : decode cX8_putsNumber 5 = .ok (.ineg, 1) := by decide +kernel
theorem dX8_putsNumber_6 : decode cX8_putsNumber 6 = .ok (.goto 4, 3) := by decide +kernel
theorem dX8_putsNumber_9 : decode cX8_putsNumber 9 = .ok (.iload_n 1, 1) := by decide +kernel
theorem dX8_putsNumber_10 : decode cX8_putsNumber 10 = .ok (.istore_n 3, 1) := by decide +kernel
theorem dX8_putsNumber_11 : decode cX8_putsNumber 11 = .ok (.iconst 1, 1) := by decide +kernel
theorem dX8_putsNumber_12 : decode cX8_putsNumber 12 = .ok (.istore 4, 2) := by decide +kernel
theorem dX8_putsNumber_14 : decode cX8_putsNumber 14 = .ok (.iconst 1, 1) := by decide +kernel
theorem dX8_putsNumber_15 : decode cX8_putsNumber 15 = .ok (.istore 5, 2) := by decide +kernel
theorem dX8_putsNumber_17 : decode cX8_putsNumber 17 = .ok (.iload_n 3, 1) := by decide +kernel
theorem dX8_putsNumber_18 : decode cX8_putsNumber 18 = .ok (.iload 5, 2) := by decide +kernel
theorem dX8_putsNumber_20 : decode cX8_putsNumber 20 = .ok (.idiv, 1) := by decide +kernel
theorem dX8_putsNumber_21 : decode cX8_putsNumber 21 = .ok (.bipush 9, 2) := by decide +kernel
theorem dX8_putsNumber_23 : decode cX8_putsNumber 23 = .ok (.if_icmp .le 16, 3) := by decide +kernel
theorem dX8_putsNumber_26 : decode cX8_putsNumber 26 = .ok (.iload 5, 2) := by decide +kernel
theorem dX8_putsNumber_28 : decode cX8_putsNumber 28 = .ok (.bipush 10, 2) := by decide +kernel
theorem dX8_putsNumber_30 : decode cX8_putsNumber 30 = .ok (.imul, 1) := by decide +kernel
theorem dX8_putsNumber_31 : decode cX8_putsNumber 31 = .ok (.istore 5, 2) := by decide +kernel
theorem dX8_putsNumber_33 : decode cX8_putsNumber 33 = .ok (.iinc 4 1, 3) := by decide +kernel
theorem dX8_putsNumber_36 : decode cX8_putsNumber 36 = .ok (.goto (-19), 3) := by decide +kernel
theorem dX8_putsNumber_39 : decode cX8_putsNumber 39 = .ok (.iload 4, 2) := by decide +kernel
theorem dX8_putsNumber_41 : decode cX8_putsNumber 41 = .ok (.iload_n 1, 1) := by decide +kernel
theorem dX8_putsNumber_42 : decode cX8_putsNumber 42 = .ok (.ifCond .ge 7, 3) := by decide +kernel
theorem dX8_putsNumber_45 : decode cX8_putsNumber 45 = .ok (.iconst 1, 1) := by decide +kernel
theorem dX8_putsNumber_46 : decode cX8_putsNumber 46 = .ok (.goto 4, 3) := by decide +kernel
theorem dX8_putsNumber_49 : decode cX8_putsNumber 49 = .ok (.iconst 0, 1) := by decide +kernel
theorem dX8_putsNumber_50 : decode cX8_putsNumber 50 = .ok (.iadd, 1) := by decide +kernel
theorem dX8_putsNumber_51 : decode cX8_putsNumber 51 = .ok (.istore 6, 2) := by decide +kernel
theorem dX8_putsNumber_53 : decode cX8_putsNumber 53 = .ok (.iload 6, 2) := by decide +kernel
