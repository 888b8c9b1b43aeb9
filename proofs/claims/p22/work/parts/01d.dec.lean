theorem dX0_init_0 : decode cX0_init 0 = .ok (.aload_n 0, 1) := by decide +kernel
theorem dX0_init_1 : decode cX0_init 1 = .ok (.invokespecial 3, 3) := by decide +kernel
theorem dX0_init_4 : decode cX0_init 4 = .ok (.aload_n 0, 1) := by decide +kernel
theorem dX0_init_5 : decode cX0_init 5 = .ok (.bipush 6, 2) := by decide +kernel
theorem dX0_init_7 : decode cX0_init 7 = .ok (.newarray .int, 2) := by decide +kernel
theorem dX0_init_9 : decode cX0_init 9 = .ok (.putfield 9, 3) := by decide +kernel
theorem dX0_init_12 : decode cX0_init 12 = .ok (.aload_n 0, 1) := by decide +kernel
theorem dX0_init_13 : decode cX0_init 13 = .ok (.bipush 6, 2) := by decide +kernel
theorem dX0_init_15 : decode cX0_init 15 = .ok (.newarray .int, 2) := by decide +kernel
theorem dX0_init_17 : decode cX0_init 17 = .ok (.putfield 15, 3) := by decide +kernel
theorem dX0_init_20 : decode cX0_init 20 = .ok (.aload_n 0, 1) := by decide +kernel
theorem dX0_init_21 : decode cX0_init 21 = .ok (.bipush 6, 2) := by decide +kernel
theorem dX0_init_23 : decode cX0_init 23 = .ok (.newarray .int, 2) := by decide +kernel
theorem dX0_init_25 : decode cX0_init 25 = .ok (.putfield 18, 3) := by decide +kernel
theorem dX0_init_28 : decode cX0_init 28 = .ok (.aload_n 0, 1) := by decide +kernel
theorem dX0_init_29 : decode cX0_init 29 = .ok (.iconst 4, 1) := by decide +kernel
theorem dX0_init_30 : decode cX0_init 30 = .ok (.newarray .int, 2) := by decide +kernel
theorem dX0_init_32 : decode cX0_init 32 = .ok (.putfield 21, 3) := by decide +kernel
theorem dX0_init_35 : decode cX0_init 35 = .ok (.aload_n 0, 1) := by decide +kernel
theorem dX0_init_36 : decode cX0_init 36 = .ok (.iconst 4, 1) := by decide +kernel
theorem dX0_init_37 : decode cX0_init 37 = .ok (.newarray .int, 2) := by decide +kernel
theorem dX0_init_39 : decode cX0_init 39 = .ok (.putfield 24, 3) := by decide +kernel
theorem dX0_init_42 : decode cX0_init 42 = .ok (.return_, 1) := by decide +kernel
theorem dX0_hasLine_0 : decode cX0_hasLine 0 = .ok (.iload_n 1, 1) := by decide +kernel
theorem dX0_hasLine_1 : decode cX0_hasLine 1 = .ok (.ifCond .lt 15, 3) := by decide +kernel
theorem dX0_hasLine_4 : decode cX0_hasLine 4 = .ok (.iload_n 1, 1) := by decide +kernel
theorem dX0_hasLine_5 : decode cX0_hasLine 5 = .ok (.aload_n 0, 1) := by decide +kernel
theorem dX0_hasLine_6 : decode cX0_hasLine 6 = .ok (.getfield 27, 3) := by decide +kernel
theorem dX0_hasLine_9 : decode cX0_hasLine 9 = .ok (.if_icmp .ge 7, 3) := by decide +kernel
theorem dX0_hasLine_12 : decode cX0_hasLine 12 = .ok (.iconst 1, 1) := by decide +kernel
theorem dX0_hasLine_13 : decode cX0_hasLine 13 = .ok (.goto 4, 3) := by decide +kernel
theorem dX0_hasLine_16 : decode cX0_hasLine 16 = .ok (.iconst 0, 1) := by decide +kernel
theorem dX0_hasLine_17 : decode cX0_hasLine 17 = .ok (.ireturn, 1) := by decide +kernel
theorem dX0_addLine_0 : decode cX0_addLine 0 = .ok (.aload_n 0, 1) := by decide +kernel
theorem dX0_addLine_1 : decode cX0_addLine 1 = .ok (.getfield 9, 3) := by decide +kernel
theorem dX0_addLine_4 : decode cX0_addLine 4 = .ok (.aload_n 0, 1) := by decide +kernel
theorem dX0_addLine_5 : decode cX0_addLine 5 = .ok (.getfield 27, 3) := by decide +kernel
theorem dX0_addLine_8 : decode cX0_addLine 8 = .ok (.iload_n 1, 1) := by decide +kernel
theorem dX0_addLine_9 : decode cX0_addLine 9 = .ok (.invokestatic 31, 3) := by decide +kernel
theorem dX0_addLine_12 : decode cX0_addLine 12 = .ok (.aload_n 0, 1) := by decide +kernel
theorem dX0_addLine_13 : decode cX0_addLine 13 = .ok (.getfield 15, 3) := by decide +kernel
theorem dX0_addLine_16 : decode cX0_addLine 16 = .ok (.aload_n 0, 1) := by decide +kernel
theorem dX0_addLine_17 : decode cX0_addLine 17 = .ok (.getfield 27, 3) := by decide +kernel
theorem dX0_addLine_20 : decode cX0_addLine 20 = .ok (.iload_n 2, 1) := by decide +kernel
theorem dX0_addLine_21 : decode cX0_addLine 21 = .ok (.invokestatic 31, 3) := by decide +kernel
theorem dX0_addLine_24 : decode cX0_addLine 24 = .ok (.aload_n 0, 1) := by decide +kernel
theorem dX0_addLine_25 : decode cX0_addLine 25 = .ok (.getfield 18, 3) := by decide +kernel
theorem dX0_addLine_28 : decode cX0_addLine 28 = .ok (.aload_n 0, 1) := by decide +kernel
theorem dX0_addLine_29 : decode cX0_addLine 29 = .ok (.getfield 27, 3) := by decide +kernel
theorem dX0_addLine_32 : decode cX0_addLine 32 = .ok (.iload_n 3, 1) := by decide +kernel
theorem dX0_addLine_33 : decode cX0_addLine 33 = .ok (.invokestatic 31, 3) := by decide +kernel
theorem dX0_addLine_36 : decode cX0_addLine 36 = .ok (.aload_n 0, 1) := by decide +kernel
theorem dX0_addLine_37 : decode cX0_addLine 37 = .ok (.dup, 1) := by decide +kernel
theorem dX0_addLine_38 : decode cX0_addLine 38 = .ok (.getfield 27, 3) := by decide +kernel
theorem dX0_addLine_41 : decode cX0_addLine 41 = .ok (.iconst 1, 1) := by decide +kernel
theorem dX0_addLine_42 : decode cX0_addLine 42 = .ok (.iadd, 1) := by decide +kernel
theorem dX0_addLine_43 : decode cX0_addLine 43 = .ok (.putfield 27, 3) := by decide +kernel
theorem dX0_addLine_46 : decode cX0_addLine 46 = .ok (.return_, 1) := by decide +kernel
theorem dX0_amountOf_0 : decode cX0_amountOf 0 = .ok (.aload_n 0, 1) := by decide +kernel
theorem dX0_amountOf_1 : decode cX0_amountOf 1 = .ok (.getfield 15, 3) := by decide +kernel
theorem dX0_amountOf_4 : decode cX0_amountOf 4 = .ok (.iload_n 1, 1) := by decide +kernel
theorem dX0_amountOf_5 : decode cX0_amountOf 5 = .ok (.invokestatic 35, 3) := by decide +kernel
theorem dX0_amountOf_8 : decode cX0_amountOf 8 = .ok (.aload_n 0, 1) := by decide +kernel
theorem dX0_amountOf_9 : decode cX0_amountOf 9 = .ok (.getfield 18, 3) := by decide +kernel
theorem dX0_amountOf_12 : decode cX0_amountOf 12 = .ok (.iload_n 1, 1) := by decide +kernel
theorem dX0_amountOf_13 : decode cX0_amountOf 13 = .ok (.invokestatic 35, 3) := by decide +kernel
theorem dX0_amountOf_16 : decode cX0_amountOf 16 = .ok (.imul, 1) := by decide +kernel
theorem dX0_amountOf_17 : decode cX0_amountOf 17 = .ok (.ireturn, 1) := by decide +kernel
theorem dX0_sumOfAmounts_0 : decode cX0_sumOfAmounts 0 = .ok (.iconst 0, 1) := by decide +kernel
theorem dX0_sumOfAmounts_1 : decode cX0_sumOfAmounts 1 = .ok (.istore_n 1, 1) := by decide +kernel
theorem dX0_sumOfAmounts_2 : decode cX0_sumOfAmounts 2 = .ok (.iconst 0, 1) := by decide +kernel
theorem dX0_sumOfAmounts_3 : decode cX0_sumOfAmounts 3 = .ok (.istore_n 2, 1) := by decide +kernel
theorem dX0_sumOfAmounts_4 : decode cX0_sumOfAmounts 4 = .ok (.iload_n 2, 1) := by decide +kernel
theorem dX0_sumOfAmounts_5 : decode cX0_sumOfAmounts 5 = .ok (.aload_n 0, 1) := by decide +kernel
theorem dX0_sumOfAmounts_6 : decode cX0_sumOfAmounts 6 = .ok (.getfield 27, 3) := by decide +kernel
theorem dX0_sumOfAmounts_9 : decode cX0_sumOfAmounts 9 = .ok (.if_icmp .ge 17, 3) := by decide +kernel
theorem dX0_sumOfAmounts_12 : decode cX0_sumOfAmounts 12 = .ok (.iload_n 1, 1) := by decide +kernel
theorem dX0_sumOfAmounts_13 : decode cX0_sumOfAmounts 13 = .ok (.aload_n 0, 1) := by decide +kernel
theorem dX0_sumOfAmounts_14 : decode cX0_sumOfAmounts 14 = .ok (.iload_n 2, 1) := by decide +kernel
theorem dX0_sumOfAmounts_15 : decode cX0_sumOfAmounts 15 = .ok (.invokevirtual 39, 3) := by decide +kernel
theorem dX0_sumOfAmounts_18 : decode cX0_sumOfAmounts 18 = .ok (.iadd, 1) := by decide +kernel
theorem dX0_sumOfAmounts_19 : decode cX0_sumOfAmounts 19 = .ok (.istore_n 1, 1) := by decide +kernel
theorem dX0_sumOfAmounts_20 : decode cX0_sumOfAmounts 20 = .ok (.iinc 2 1, 3) := by decide +kernel
theorem dX0_sumOfAmounts_23 : decode cX0_sumOfAmounts 23 = .ok (.goto (-19), 3) := by decide +kernel
theorem dX0_sumOfAmounts_26 : decode cX0_sumOfAmounts 26 = .ok (.iload_n 1, 1) := by decide +kernel
theorem dX0_sumOfAmounts_27 : decode cX0_sumOfAmounts 27 = .ok (.ireturn, 1) := by decide +kernel
theorem dX0_taxWithNotes_0 : decode cX0_taxWithNotes 0 = .ok (.aload_n 0, 1) := by decide +kernel
theorem dX0_taxWithNotes_1 : decode cX0_taxWithNotes 1 = .ok (.getfield 43, 3) := by decide +kernel
theorem dX0_taxWithNotes_4 : decode cX0_taxWithNotes 4 = .ok (.aload_n 0, 1) := by decide +kernel
theorem dX0_taxWithNotes_5 : decode cX0_taxWithNotes 5 = .ok (.getfield 46, 3) := by decide +kernel
theorem dX0_taxWithNotes_8 : decode cX0_taxWithNotes 8 = .ok (.iadd, 1) := by decide +kernel
theorem dX0_taxWithNotes_9 : decode cX0_taxWithNotes 9 = .ok (.ireturn, 1) := by decide +kernel
theorem dX0_taxBy_0 : decode cX0_taxBy 0 = .ok (.aload_n 0, 1) := by decide +kernel
theorem dX0_taxBy_1 : decode cX0_taxBy 1 = .ok (.getfield 49, 3) := by decide +kernel
theorem dX0_taxBy_4 : decode cX0_taxBy 4 = .ok (.lookupswitch 40 #[(0, 28), (1, 34)], 28) := by decide +kernel
theorem dX0_taxBy_32 : decode cX0_taxBy 32 = .ok (.aload_n 0, 1) := by decide +kernel
theorem dX0_taxBy_33 : decode cX0_taxBy 33 = .ok (.aload_n 1, 1) := by decide +kernel
theorem dX0_taxBy_34 : decode cX0_taxBy 34 = .ok (.invokevirtual 52, 3) := by decide +kernel
theorem dX0_taxBy_37 : decode cX0_taxBy 37 = .ok (.ireturn, 1) := by decide +kernel
theorem dX0_taxBy_38 : decode cX0_taxBy 38 = .ok (.aload_n 0, 1) := by decide +kernel
theorem dX0_taxBy_39 : decode cX0_taxBy 39 = .ok (.aload_n 1, 1) := by decide +kernel
theorem dX0_taxBy_40 : decode cX0_taxBy 40 = .ok (.invokevirtual 56, 3) := by decide +kernel
theorem dX0_taxBy_43 : decode cX0_taxBy 43 = .ok (.ireturn, 1) := by decide +kernel
theorem dX0_taxBy_44 : decode cX0_taxBy 44 = .ok (.aload_n 0, 1) := by decide +kernel
theorem dX0_taxBy_45 : decode cX0_taxBy 45 = .ok (.aload_n 1, 1) := by decide +kernel
theorem dX0_taxBy_46 : decode cX0_taxBy 46 = .ok (.invokevirtual 59, 3) := by decide +kernel
theorem dX0_taxBy_49 : decode cX0_taxBy 49 = .ok (.ireturn, 1) := by decide +kernel
theorem dX0_taxByLine_0 : decode cX0_taxByLine 0 = .ok (.iconst 0, 1) := by decide +kernel
theorem dX0_taxByLine_1 : decode cX0_taxByLine 1 = .ok (.istore_n 2, 1) := by decide +kernel
theorem dX0_taxByLine_2 : decode cX0_taxByLine 2 = .ok (.iconst 0, 1) := by decide +kernel
theorem dX0_taxByLine_3 : decode cX0_taxByLine 3 = .ok (.istore_n 3, 1) := by decide +kernel
theorem dX0_taxByLine_4 : decode cX0_taxByLine 4 = .ok (.iload_n 3, 1) := by decide +kernel
theorem dX0_taxByLine_5 : decode cX0_taxByLine 5 = .ok (.aload_n 0, 1) := by decide +kernel
theorem dX0_taxByLine_6 : decode cX0_taxByLine 6 = .ok (.getfield 27, 3) := by decide +kernel
theorem dX0_taxByLine_9 : decode cX0_taxByLine 9 = .ok (.if_icmp .ge 21, 3) := by decide +kernel
theorem dX0_taxByLine_12 : decode cX0_taxByLine 12 = .ok (.iload_n 2, 1) := by decide +kernel
theorem dX0_taxByLine_13 : decode cX0_taxByLine 13 = .ok (.aload_n 0, 1) := by decide +kernel
theorem dX0_taxByLine_14 : decode cX0_taxByLine 14 = .ok (.iload_n 3, 1) := by decide +kernel
theorem dX0_taxByLine_15 : decode cX0_taxByLine 15 = .ok (.aload_n 1, 1) := by decide +kernel
theorem dX0_taxByLine_16 : decode cX0_taxByLine 16 = .ok (.invokevirtual 62, 3) := by decide +kernel
theorem dX0_taxByLine_19 : decode cX0_taxByLine 19 = .ok (.invokestatic 66, 3) := by decide +kernel
theorem dX0_taxByLine_22 : decode cX0_taxByLine 22 = .ok (.iadd, 1) := by decide +kernel
theorem dX0_taxByLine_23 : decode cX0_taxByLine 23 = .ok (.istore_n 2, 1) := by decide +kernel
theorem dX0_taxByLine_24 : decode cX0_taxByLine 24 = .ok (.iinc 3 1, 3) := by decide +kernel
theorem dX0_taxByLine_27 : decode cX0_taxByLine 27 = .ok (.goto (-23), 3) := by decide +kernel
theorem dX0_taxByLine_30 : decode cX0_taxByLine 30 = .ok (.iload_n 2, 1) := by decide +kernel
theorem dX0_taxByLine_31 : decode cX0_taxByLine 31 = .ok (.ireturn, 1) := by decide +kernel
theorem dX0_taxByKind_0 : decode cX0_taxByKind 0 = .ok (.iconst 0, 1) := by decide +kernel
theorem dX0_taxByKind_1 : decode cX0_taxByKind 1 = .ok (.istore_n 2, 1) := by decide +kernel
theorem dX0_taxByKind_2 : decode cX0_taxByKind 2 = .ok (.iconst 0, 1) := by decide +kernel
theorem dX0_taxByKind_3 : decode cX0_taxByKind 3 = .ok (.istore_n 3, 1) := by decide +kernel
theorem dX0_taxByKind_4 : decode cX0_taxByKind 4 = .ok (.iload_n 3, 1) := by decide +kernel
theorem dX0_taxByKind_5 : decode cX0_taxByKind 5 = .ok (.iconst 4, 1) := by decide +kernel
theorem dX0_taxByKind_6 : decode cX0_taxByKind 6 = .ok (.if_icmp .ge 67, 3) := by decide +kernel
theorem dX0_taxByKind_9 : decode cX0_taxByKind 9 = .ok (.iconst 0, 1) := by decide +kernel
theorem dX0_taxByKind_10 : decode cX0_taxByKind 10 = .ok (.istore 4, 2) := by decide +kernel
theorem dX0_taxByKind_12 : decode cX0_taxByKind 12 = .ok (.iconst 0, 1) := by decide +kernel
theorem dX0_taxByKind_13 : decode cX0_taxByKind 13 = .ok (.istore 5, 2) := by decide +kernel
theorem dX0_taxByKind_15 : decode cX0_taxByKind 15 = .ok (.iload 5, 2) := by decide +kernel
theorem dX0_taxByKind_17 : decode cX0_taxByKind 17 = .ok (.aload_n 0, 1) := by decide +kernel
theorem dX0_taxByKind_18 : decode cX0_taxByKind 18 = .ok (.getfield 27, 3) := by decide +kernel
theorem dX0_taxByKind_21 : decode cX0_taxByKind 21 = .ok (.if_icmp .ge 38, 3) := by decide +kernel
theorem dX0_taxByKind_24 : decode cX0_taxByKind 24 = .ok (.iload 4, 2) := by decide +kernel
theorem dX0_taxByKind_26 : decode cX0_taxByKind 26 = .ok (.aload_n 0, 1) := by decide +kernel
theorem dX0_taxByKind_27 : decode cX0_taxByKind 27 = .ok (.getfield 9, 3) := by decide +kernel
theorem dX0_taxByKind_30 : decode cX0_taxByKind 30 = .ok (.iload 5, 2) := by decide +kernel
theorem dX0_taxByKind_32 : decode cX0_taxByKind 32 = .ok (.invokestatic 35, 3) := by decide +kernel
theorem dX0_taxByKind_35 : decode cX0_taxByKind 35 = .ok (.iload_n 3, 1) := by decide +kernel
theorem dX0_taxByKind_36 : decode cX0_taxByKind 36 = .ok (.if_icmp .ne 13, 3) := by decide +kernel
theorem dX0_taxByKind_39 : decode cX0_taxByKind 39 = .ok (.aload_n 0, 1) := by decide +kernel
theorem dX0_taxByKind_40 : decode cX0_taxByKind 40 = .ok (.iload 5, 2) := by decide +kernel
theorem dX0_taxByKind_42 : decode cX0_taxByKind 42 = .ok (.aload_n 1, 1) := by decide +kernel
theorem dX0_taxByKind_43 : decode cX0_taxByKind 43 = .ok (.invokevirtual 62, 3) := by decide +kernel
theorem dX0_taxByKind_46 : decode cX0_taxByKind 46 = .ok (.goto 4, 3) := by decide +kernel
theorem dX0_taxByKind_49 : decode cX0_taxByKind 49 = .ok (.iconst 0, 1) := by decide +kernel
theorem dX0_taxByKind_50 : decode cX0_taxByKind 50 = .ok (.iadd, 1) := by decide +kernel
theorem dX0_taxByKind_51 : decode cX0_taxByKind 51 = .ok (.istore 4, 2) := by decide +kernel
theorem dX0_taxByKind_53 : decode cX0_taxByKind 53 = .ok (.iinc 5 1, 3) := by decide +kernel
theorem dX0_taxByKind_56 : decode cX0_taxByKind 56 = .ok (.goto (-41), 3) := by decide +kernel
theorem dX0_taxByKind_59 : decode cX0_taxByKind 59 = .ok (.iload_n 2, 1) := by decide +kernel
theorem dX0_taxByKind_60 : decode cX0_taxByKind 60 = .ok (.iload 4, 2) := by decide +kernel
theorem dX0_taxByKind_62 : decode cX0_taxByKind 62 = .ok (.invokestatic 66, 3) := by decide +kernel
theorem dX0_taxByKind_65 : decode cX0_taxByKind 65 = .ok (.iadd, 1) := by decide +kernel
theorem dX0_taxByKind_66 : decode cX0_taxByKind 66 = .ok (.istore_n 2, 1) := by decide +kernel
theorem dX0_taxByKind_67 : decode cX0_taxByKind 67 = .ok (.iinc 3 1, 3) := by decide +kernel
theorem dX0_taxByKind_70 : decode cX0_taxByKind 70 = .ok (.goto (-66), 3) := by decide +kernel
theorem dX0_taxByKind_73 : decode cX0_taxByKind 73 = .ok (.iload_n 2, 1) := by decide +kernel
theorem dX0_taxByKind_74 : decode cX0_taxByKind 74 = .ok (.ireturn, 1) := by decide +kernel
theorem dX0_taxByAll_0 : decode cX0_taxByAll 0 = .ok (.iconst 0, 1) := by decide +kernel
theorem dX0_taxByAll_1 : decode cX0_taxByAll 1 = .ok (.istore_n 2, 1) := by decide +kernel
theorem dX0_taxByAll_2 : decode cX0_taxByAll 2 = .ok (.iconst 0, 1) := by decide +kernel
theorem dX0_taxByAll_3 : decode cX0_taxByAll 3 = .ok (.istore_n 3, 1) := by decide +kernel
theorem dX0_taxByAll_4 : decode cX0_taxByAll 4 = .ok (.iload_n 3, 1) := by decide +kernel
theorem dX0_taxByAll_5 : decode cX0_taxByAll 5 = .ok (.aload_n 0, 1) := by decide +kernel
theorem dX0_taxByAll_6 : decode cX0_taxByAll 6 = .ok (.getfield 27, 3) := by decide +kernel
theorem dX0_taxByAll_9 : decode cX0_taxByAll 9 = .ok (.if_icmp .ge 18, 3) := by decide +kernel
theorem dX0_taxByAll_12 : decode cX0_taxByAll 12 = .ok (.iload_n 2, 1) := by decide +kernel
theorem dX0_taxByAll_13 : decode cX0_taxByAll 13 = .ok (.aload_n 0, 1) := by decide +kernel
theorem dX0_taxByAll_14 : decode cX0_taxByAll 14 = .ok (.iload_n 3, 1) := by decide +kernel
theorem dX0_taxByAll_15 : decode cX0_taxByAll 15 = .ok (.aload_n 1, 1) := by decide +kernel
theorem dX0_taxByAll_16 : decode cX0_taxByAll 16 = .ok (.invokevirtual 62, 3) := by decide +kernel
theorem dX0_taxByAll_19 : decode cX0_taxByAll 19 = .ok (.iadd, 1) := by decide +kernel
theorem dX0_taxByAll_20 : decode cX0_taxByAll 20 = .ok (.istore_n 2, 1) := by decide +kernel
theorem dX0_taxByAll_21 : decode cX0_taxByAll 21 = .ok (.iinc 3 1, 3) := by decide +kernel
theorem dX0_taxByAll_24 : decode cX0_taxByAll 24 = .ok (.goto (-20), 3) := by decide +kernel
theorem dX0_taxByAll_27 : decode cX0_taxByAll 27 = .ok (.iload_n 2, 1) := by decide +kernel
theorem dX0_taxByAll_28 : decode cX0_taxByAll 28 = .ok (.invokestatic 66, 3) := by decide +kernel
theorem dX0_taxByAll_31 : decode cX0_taxByAll 31 = .ok (.ireturn, 1) := by decide +kernel
theorem dX0_timesRate_0 : decode cX0_timesRate 0 = .ok (.aload_n 0, 1) := by decide +kernel
theorem dX0_timesRate_1 : decode cX0_timesRate 1 = .ok (.iload_n 1, 1) := by decide +kernel
theorem dX0_timesRate_2 : decode cX0_timesRate 2 = .ok (.invokevirtual 39, 3) := by decide +kernel
theorem dX0_timesRate_5 : decode cX0_timesRate 5 = .ok (.aload_n 2, 1) := by decide +kernel
theorem dX0_timesRate_6 : decode cX0_timesRate 6 = .ok (.aload_n 0, 1) := by decide +kernel
theorem dX0_timesRate_7 : decode cX0_timesRate 7 = .ok (.getfield 9, 3) := by decide +kernel
theorem dX0_timesRate_10 : decode cX0_timesRate 10 = .ok (.iload_n 1, 1) := by decide +kernel
theorem dX0_timesRate_11 : decode cX0_timesRate 11 = .ok (.invokestatic 35, 3) := by decide +kernel
theorem dX0_timesRate_14 : decode cX0_timesRate 14 = .ok (.invokestatic 35, 3) := by decide +kernel
theorem dX0_timesRate_17 : decode cX0_timesRate 17 = .ok (.imul, 1) := by decide +kernel
theorem dX0_timesRate_18 : decode cX0_timesRate 18 = .ok (.ireturn, 1) := by decide +kernel
theorem dX0_hundredth_0 : decode cX0_hundredth 0 = .ok (.iload_n 0, 1) := by decide +kernel
theorem dX0_hundredth_1 : decode cX0_hundredth 1 = .ok (.bipush 50, 2) := by decide +kernel
theorem dX0_hundredth_3 : decode cX0_hundredth 3 = .ok (.iadd, 1) := by decide +kernel
theorem dX0_hundredth_4 : decode cX0_hundredth 4 = .ok (.bipush 100, 2) := by decide +kernel
theorem dX0_hundredth_6 : decode cX0_hundredth 6 = .ok (.idiv, 1) := by decide +kernel
theorem dX0_hundredth_7 : decode cX0_hundredth 7 = .ok (.ireturn, 1) := by decide +kernel
theorem dX0_numberNamed_0 : decode cX0_numberNamed 0 = .ok (.iload_n 1, 1) := by decide +kernel
theorem dX0_numberNamed_1 : decode cX0_numberNamed 1 = .ok (.tableswitch 172 97 116 #[166, 172, 100, 105, 172, 172, 125, 172, 135, 172, 139, 110, 172, 95, 172, 157, 148, 172, 115, 120], 95) := by decide +kernel
theorem dX0_numberNamed_96 : decode cX0_numberNamed 96 = .ok (.aload_n 0, 1) := by decide +kernel
theorem dX0_numberNamed_97 : decode cX0_numberNamed 97 = .ok (.getfield 69, 3) := by decide +kernel
theorem dX0_numberNamed_100 : decode cX0_numberNamed 100 = .ok (.ireturn, 1) := by decide +kernel
theorem dX0_numberNamed_101 : decode cX0_numberNamed 101 = .ok (.aload_n 0, 1) := by decide +kernel
theorem dX0_numberNamed_102 : decode cX0_numberNamed 102 = .ok (.getfield 72, 3) := by decide +kernel
theorem dX0_numberNamed_105 : decode cX0_numberNamed 105 = .ok (.ireturn, 1) := by decide +kernel
theorem dX0_numberNamed_106 : decode cX0_numberNamed 106 = .ok (.aload_n 0, 1) := by decide +kernel
theorem dX0_numberNamed_107 : decode cX0_numberNamed 107 = .ok (.getfield 75, 3) := by decide +kernel
theorem dX0_numberNamed_110 : decode cX0_numberNamed 110 = .ok (.ireturn, 1) := by decide +kernel
theorem dX0_numberNamed_111 : decode cX0_numberNamed 111 = .ok (.aload_n 0, 1) := by decide +kernel
theorem dX0_numberNamed_112 : decode cX0_numberNamed 112 = .ok (.getfield 27, 3) := by decide +kernel
theorem dX0_numberNamed_115 : decode cX0_numberNamed 115 = .ok (.ireturn, 1) := by decide +kernel
theorem dX0_numberNamed_116 : decode cX0_numberNamed 116 = .ok (.aload_n 0, 1) := by decide +kernel
theorem dX0_numberNamed_117 : decode cX0_numberNamed 117 = .ok (.invokevirtual 78, 3) := by decide +kernel
theorem dX0_numberNamed_120 : decode cX0_numberNamed 120 = .ok (.ireturn, 1) := by decide +kernel
theorem dX0_numberNamed_121 : decode cX0_numberNamed 121 = .ok (.aload_n 0, 1) := by decide +kernel
theorem dX0_numberNamed_122 : decode cX0_numberNamed 122 = .ok (.getfield 43, 3) := by decide +kernel
theorem dX0_numberNamed_125 : decode cX0_numberNamed 125 = .ok (.ireturn, 1) := by decide +kernel
theorem dX0_numberNamed_126 : decode cX0_numberNamed 126 = .ok (.aload_n 0, 1) := by decide +kernel
theorem dX0_numberNamed_127 : decode cX0_numberNamed 127 = .ok (.invokevirtual 78, 3) := by decide +kernel
theorem dX0_numberNamed_130 : decode cX0_numberNamed 130 = .ok (.aload_n 0, 1) := by decide +kernel
theorem dX0_numberNamed_131 : decode cX0_numberNamed 131 = .ok (.getfield 43, 3) := by decide +kernel
theorem dX0_numberNamed_134 : decode cX0_numberNamed 134 = .ok (.iadd, 1) := by decide +kernel
theorem dX0_numberNamed_135 : decode cX0_numberNamed 135 = .ok (.ireturn, 1) := by decide +kernel
theorem dX0_numberNamed_136 : decode cX0_numberNamed 136 = .ok (.iload_n 2, 1) := by decide +kernel
theorem dX0_numberNamed_137 : decode cX0_numberNamed 137 = .ok (.iconst 1, 1) := by decide +kernel
theorem dX0_numberNamed_138 : decode cX0_numberNamed 138 = .ok (.iadd, 1) := by decide +kernel
theorem dX0_numberNamed_139 : decode cX0_numberNamed 139 = .ok (.ireturn, 1) := by decide +kernel
theorem dX0_numberNamed_140 : decode cX0_numberNamed 140 = .ok (.aload_n 0, 1) := by decide +kernel
theorem dX0_numberNamed_141 : decode cX0_numberNamed 141 = .ok (.getfield 9, 3) := by decide +kernel
theorem dX0_numberNamed_144 : decode cX0_numberNamed 144 = .ok (.iload_n 2, 1) := by decide +kernel
theorem dX0_numberNamed_145 : decode cX0_numberNamed 145 = .ok (.invokestatic 35, 3) := by decide +kernel
theorem dX0_numberNamed_148 : decode cX0_numberNamed 148 = .ok (.ireturn, 1) := by decide +kernel
theorem dX0_numberNamed_149 : decode cX0_numberNamed 149 = .ok (.aload_n 0, 1) := by decide +kernel
theorem dX0_numberNamed_150 : decode cX0_numberNamed 150 = .ok (.getfield 15, 3) := by decide +kernel
theorem dX0_numberNamed_153 : decode cX0_numberNamed 153 = .ok (.iload_n 2, 1) := by decide +kernel
theorem dX0_numberNamed_154 : decode cX0_numberNamed 154 = .ok (.invokestatic 35, 3) := by decide +kernel
theorem dX0_numberNamed_157 : decode cX0_numberNamed 157 = .ok (.ireturn, 1) := by decide +kernel
theorem dX0_numberNamed_158 : decode cX0_numberNamed 158 = .ok (.aload_n 0, 1) := by decide +kernel
theorem dX0_numberNamed_159 : decode cX0_numberNamed 159 = .ok (.getfield 18, 3) := by decide +kernel
theorem dX0_numberNamed_162 : decode cX0_numberNamed 162 = .ok (.iload_n 2, 1) := by decide +kernel
theorem dX0_numberNamed_163 : decode cX0_numberNamed 163 = .ok (.invokestatic 35, 3) := by decide +kernel
theorem dX0_numberNamed_166 : decode cX0_numberNamed 166 = .ok (.ireturn, 1) := by decide +kernel
theorem dX0_numberNamed_167 : decode cX0_numberNamed 167 = .ok (.aload_n 0, 1) := by decide +kernel
theorem dX0_numberNamed_168 : decode cX0_numberNamed 168 = .ok (.iload_n 2, 1) := by decide +kernel
theorem dX0_numberNamed_169 : decode cX0_numberNamed 169 = .ok (.invokevirtual 39, 3) := by decide +kernel
theorem dX0_numberNamed_172 : decode cX0_numberNamed 172 = .ok (.ireturn, 1) := by decide +kernel
theorem dX0_numberNamed_173 : decode cX0_numberNamed 173 = .ok (.aload_n 0, 1) := by decide +kernel
theorem dX0_numberNamed_174 : decode cX0_numberNamed 174 = .ok (.iload_n 2, 1) := by decide +kernel
theorem dX0_numberNamed_175 : decode cX0_numberNamed 175 = .ok (.aload_n 0, 1) := by decide +kernel
theorem dX0_numberNamed_176 : decode cX0_numberNamed 176 = .ok (.getfield 24, 3) := by decide +kernel
theorem dX0_numberNamed_179 : decode cX0_numberNamed 179 = .ok (.invokevirtual 62, 3) := by decide +kernel
theorem dX0_numberNamed_182 : decode cX0_numberNamed 182 = .ok (.invokestatic 66, 3) := by decide +kernel
theorem dX0_numberNamed_185 : decode cX0_numberNamed 185 = .ok (.ireturn, 1) := by decide +kernel
theorem dX1_init_0 : decode cX1_init 0 = .ok (.aload_n 0, 1) := by decide +kernel
theorem dX1_init_1 : decode cX1_init 1 = .ok (.invokespecial 3, 3) := by decide +kernel
theorem dX1_init_4 : decode cX1_init 4 = .ok (.aload_n 0, 1) := by decide +kernel
theorem dX1_init_5 : decode cX1_init 5 = .ok (.sipush 160, 3) := by decide +kernel
theorem dX1_init_8 : decode cX1_init 8 = .ok (.newarray .int, 2) := by decide +kernel
theorem dX1_init_10 : decode cX1_init 10 = .ok (.putfield 9, 3) := by decide +kernel
theorem dX1_init_13 : decode cX1_init 13 = .ok (.aload_n 0, 1) := by decide +kernel
theorem dX1_init_14 : decode cX1_init 14 = .ok (.sipush 160, 3) := by decide +kernel
theorem dX1_init_17 : decode cX1_init 17 = .ok (.newarray .int, 2) := by decide +kernel
theorem dX1_init_19 : decode cX1_init 19 = .ok (.putfield 15, 3) := by decide +kernel
theorem dX1_init_22 : decode cX1_init 22 = .ok (.aload_n 0, 1) := by decide +kernel
theorem dX1_init_23 : decode cX1_init 23 = .ok (.sipush 160, 3) := by decide +kernel
theorem dX1_init_26 : decode cX1_init 26 = .ok (.newarray .int, 2) := by decide +kernel
theorem dX1_init_28 : decode cX1_init 28 = .ok (.putfield 18, 3) := by decide +kernel
theorem dX1_init_31 : decode cX1_init 31 = .ok (.return_, 1) := by decide +kernel
theorem dX1_add_0 : decode cX1_add 0 = .ok (.aload_n 0, 1) := by decide +kernel
theorem dX1_add_1 : decode cX1_add 1 = .ok (.getfield 21, 3) := by decide +kernel
theorem dX1_add_4 : decode cX1_add 4 = .ok (.istore 4, 2) := by decide +kernel
theorem dX1_add_6 : decode cX1_add 6 = .ok (.aload_n 0, 1) := by decide +kernel
theorem dX1_add_7 : decode cX1_add 7 = .ok (.getfield 9, 3) := by decide +kernel
theorem dX1_add_10 : decode cX1_add 10 = .ok (.iload 4, 2) := by decide +kernel
theorem dX1_add_12 : decode cX1_add 12 = .ok (.iload_n 1, 1) := by decide +kernel
theorem dX1_add_13 : decode cX1_add 13 = .ok (.invokestatic 25, 3) := by decide +kernel
theorem dX1_add_16 : decode cX1_add 16 = .ok (.aload_n 0, 1) := by decide +kernel
theorem dX1_add_17 : decode cX1_add 17 = .ok (.getfield 15, 3) := by decide +kernel
theorem dX1_add_20 : decode cX1_add 20 = .ok (.iload 4, 2) := by decide +kernel
theorem dX1_add_22 : decode cX1_add 22 = .ok (.iload_n 2, 1) := by decide +kernel
theorem dX1_add_23 : decode cX1_add 23 = .ok (.invokestatic 25, 3) := by decide +kernel
theorem dX1_add_26 : decode cX1_add 26 = .ok (.aload_n 0, 1) := by decide +kernel
theorem dX1_add_27 : decode cX1_add 27 = .ok (.getfield 18, 3) := by decide +kernel
theorem dX1_add_30 : decode cX1_add 30 = .ok (.iload 4, 2) := by decide +kernel
theorem dX1_add_32 : decode cX1_add 32 = .ok (.iload_n 3, 1) := by decide +kernel
theorem dX1_add_33 : decode cX1_add 33 = .ok (.invokestatic 25, 3) := by decide +kernel
theorem dX1_add_36 : decode cX1_add 36 = .ok (.aload_n 0, 1) := by decide +kernel
theorem dX1_add_37 : decode cX1_add 37 = .ok (.iload 4, 2) := by decide +kernel
theorem dX1_add_39 : decode cX1_add 39 = .ok (.iconst 1, 1) := by decide +kernel
theorem dX1_add_40 : decode cX1_add 40 = .ok (.iadd, 1) := by decide +kernel
theorem dX1_add_41 : decode cX1_add 41 = .ok (.putfield 21, 3) := by decide +kernel
theorem dX1_add_44 : decode cX1_add 44 = .ok (.iload 4, 2) := by decide +kernel
theorem dX1_add_46 : decode cX1_add 46 = .ok (.ireturn, 1) := by decide +kernel
theorem dX1_aimHere_0 : decode cX1_aimHere 0 = .ok (.aload_n 0, 1) := by decide +kernel
theorem dX1_aimHere_1 : decode cX1_aimHere 1 = .ok (.getfield 18, 3) := by decide +kernel
theorem dX1_aimHere_4 : decode cX1_aimHere 4 = .ok (.iload_n 1, 1) := by decide +kernel
theorem dX1_aimHere_5 : decode cX1_aimHere 5 = .ok (.aload_n 0, 1) := by decide +kernel
theorem dX1_aimHere_6 : decode cX1_aimHere 6 = .ok (.getfield 21, 3) := by decide +kernel
theorem dX1_aimHere_9 : decode cX1_aimHere 9 = .ok (.invokestatic 25, 3) := by decide +kernel
theorem dX1_aimHere_12 : decode cX1_aimHere 12 = .ok (.return_, 1) := by decide +kernel
theorem dX2_init_0 : decode cX2_init 0 = .ok (.aload_n 0, 1) := by decide +kernel
theorem dX2_init_1 : decode cX2_init 1 = .ok (.invokespecial 3, 3) := by decide +kernel
theorem dX2_init_4 : decode cX2_init 4 = .ok (.aload_n 0, 1) := by decide +kernel
theorem dX2_init_5 : decode cX2_init 5 = .ok (.bipush 40, 2) := by decide +kernel
theorem dX2_init_7 : decode cX2_init 7 = .ok (.newarray .int, 2) := by decide +kernel
theorem dX2_init_9 : decode cX2_init 9 = .ok (.putfield 9, 3) := by decide +kernel
theorem dX2_init_12 : decode cX2_init 12 = .ok (.aload_n 0, 1) := by decide +kernel
theorem dX2_init_13 : decode cX2_init 13 = .ok (.bipush 40, 2) := by decide +kernel
theorem dX2_init_15 : decode cX2_init 15 = .ok (.newarray .int, 2) := by decide +kernel
theorem dX2_init_17 : decode cX2_init 17 = .ok (.putfield 15, 3) := by decide +kernel
theorem dX2_init_20 : decode cX2_init 20 = .ok (.aload_n 0, 1) := by decide +kernel
theorem dX2_init_21 : decode cX2_init 21 = .ok (.bipush 40, 2) := by decide +kernel
theorem dX2_init_23 : decode cX2_init 23 = .ok (.newarray .int, 2) := by decide +kernel
theorem dX2_init_25 : decode cX2_init 25 = .ok (.putfield 18, 3) := by decide +kernel
theorem dX2_init_28 : decode cX2_init 28 = .ok (.return_, 1) := by decide +kernel
theorem dX2_enter_0 : decode cX2_enter 0 = .ok (.aload_n 0, 1) := by decide +kernel
theorem dX2_enter_1 : decode cX2_enter 1 = .ok (.getfield 9, 3) := by decide +kernel
theorem dX2_enter_4 : decode cX2_enter 4 = .ok (.aload_n 0, 1) := by decide +kernel
theorem dX2_enter_5 : decode cX2_enter 5 = .ok (.getfield 21, 3) := by decide +kernel
theorem dX2_enter_8 : decode cX2_enter 8 = .ok (.iload_n 1, 1) := by decide +kernel
theorem dX2_enter_9 : decode cX2_enter 9 = .ok (.invokestatic 25, 3) := by decide +kernel
theorem dX2_enter_12 : decode cX2_enter 12 = .ok (.aload_n 0, 1) := by decide +kernel
theorem dX2_enter_13 : decode cX2_enter 13 = .ok (.getfield 15, 3) := by decide +kernel
theorem dX2_enter_16 : decode cX2_enter 16 = .ok (.aload_n 0, 1) := by decide +kernel
theorem dX2_enter_17 : decode cX2_enter 17 = .ok (.getfield 21, 3) := by decide +kernel
theorem dX2_enter_20 : decode cX2_enter 20 = .ok (.iload_n 2, 1) := by decide +kernel
theorem dX2_enter_21 : decode cX2_enter 21 = .ok (.invokestatic 25, 3) := by decide +kernel
theorem dX2_enter_24 : decode cX2_enter 24 = .ok (.aload_n 0, 1) := by decide +kernel
theorem dX2_enter_25 : decode cX2_enter 25 = .ok (.getfield 18, 3) := by decide +kernel
theorem dX2_enter_28 : decode cX2_enter 28 = .ok (.aload_n 0, 1) := by decide +kernel
theorem dX2_enter_29 : decode cX2_enter 29 = .ok (.getfield 21, 3) := by decide +kernel
theorem dX2_enter_32 : decode cX2_enter 32 = .ok (.iload_n 3, 1) := by decide +kernel
theorem dX2_enter_33 : decode cX2_enter 33 = .ok (.invokestatic 25, 3) := by decide +kernel
theorem dX2_enter_36 : decode cX2_enter 36 = .ok (.aload_n 0, 1) := by decide +kernel
theorem dX2_enter_37 : decode cX2_enter 37 = .ok (.dup, 1) := by decide +kernel
theorem dX2_enter_38 : decode cX2_enter 38 = .ok (.getfield 21, 3) := by decide +kernel
theorem dX2_enter_41 : decode cX2_enter 41 = .ok (.iconst 1, 1) := by decide +kernel
theorem dX2_enter_42 : decode cX2_enter 42 = .ok (.iadd, 1) := by decide +kernel
theorem dX2_enter_43 : decode cX2_enter 43 = .ok (.putfield 21, 3) := by decide +kernel
theorem dX2_enter_46 : decode cX2_enter 46 = .ok (.return_, 1) := by decide +kernel
theorem dX3_init_0 : decode cX3_init 0 = .ok (.aload_n 0, 1) := by decide +kernel
theorem dX3_init_1 : decode cX3_init 1 = .ok (.invokespecial 3, 3) := by decide +kernel
theorem dX3_init_4 : decode cX3_init 4 = .ok (.aload_n 0, 1) := by decide +kernel
theorem dX3_init_5 : decode cX3_init 5 = .ok (.sipush 160, 3) := by decide +kernel
theorem dX3_init_8 : decode cX3_init 8 = .ok (.newarray .int, 2) := by decide +kernel
theorem dX3_init_10 : decode cX3_init 10 = .ok (.putfield 9, 3) := by decide +kernel
theorem dX3_init_13 : decode cX3_init 13 = .ok (.return_, 1) := by decide +kernel
theorem dX3_countSigns_0 : decode cX3_countSigns 0 = .ok (.lload_n 0, 1) := by decide +kernel
theorem dX3_countSigns_1 : decode cX3_countSigns 1 = .ok (.lstore_n 2, 1) := by decide +kernel
theorem dX3_countSigns_2 : decode cX3_countSigns 2 = .ok (.iconst 0, 1) := by decide +kernel
theorem dX3_countSigns_3 : decode cX3_countSigns 3 = .ok (.istore 4, 2) := by decide +kernel
theorem dX3_countSigns_5 : decode cX3_countSigns 5 = .ok (.iload 4, 2) := by decide +kernel
theorem dX3_countSigns_7 : decode cX3_countSigns 7 = .ok (.bipush 8, 2) := by decide +kernel
theorem dX3_countSigns_9 : decode cX3_countSigns 9 = .ok (.if_icmp .ge 56, 3) := by decide +kernel
theorem dX3_countSigns_12 : decode cX3_countSigns 12 = .ok (.lload_n 2, 1) := by decide +kernel
theorem dX3_countSigns_13 : decode cX3_countSigns 13 = .ok (.ldc2_w 15, 3) := by decide +kernel
theorem dX3_countSigns_16 : decode cX3_countSigns 16 = .ok (.land, 1) := by decide +kernel
theorem dX3_countSigns_17 : decode cX3_countSigns 17 = .ok (.l2i, 1) := by decide +kernel
theorem dX3_countSigns_18 : decode cX3_countSigns 18 = .ok (.istore 5, 2) := by decide +kernel
theorem dX3_countSigns_20 : decode cX3_countSigns 20 = .ok (.iload 5, 2) := by decide +kernel
theorem dX3_countSigns_22 : decode cX3_countSigns 22 = .ok (.ifCond .ne 16, 3) := by decide +kernel
theorem dX3_countSigns_25 : decode cX3_countSigns 25 = .ok (.lload_n 2, 1) := by decide +kernel
theorem dX3_countSigns_26 : decode cX3_countSigns 26 = .ok (.lconst 0, 1) := by decide +kernel
theorem dX3_countSigns_27 : decode cX3_countSigns 27 = .ok (.lcmp, 1) := by decide +kernel
theorem dX3_countSigns_28 : decode cX3_countSigns 28 = .ok (.ifCond .ne 8, 3) := by decide +kernel
theorem dX3_countSigns_31 : decode cX3_countSigns 31 = .ok (.iload 4, 2) := by decide +kernel
theorem dX3_countSigns_33 : decode cX3_countSigns 33 = .ok (.goto 4, 3) := by decide +kernel
theorem dX3_countSigns_36 : decode cX3_countSigns 36 = .ok (.iconst (-1), 1) := by decide +kernel
theorem dX3_countSigns_37 : decode cX3_countSigns 37 = .ok (.ireturn, 1) := by decide +kernel
theorem dX3_countSigns_38 : decode cX3_countSigns 38 = .ok (.iload 5, 2) := by decide +kernel
theorem dX3_countSigns_40 : decode cX3_countSigns 40 = .ok (.bipush 32, 2) := by decide +kernel
theorem dX3_countSigns_42 : decode cX3_countSigns 42 = .ok (.if_icmp .lt 10, 3) := by decide +kernel
theorem dX3_countSigns_45 : decode cX3_countSigns 45 = .ok (.iload 5, 2) := by decide +kernel
theorem dX3_countSigns_47 : decode cX3_countSigns 47 = .ok (.bipush 126, 2) := by decide +kernel
theorem dX3_countSigns_49 : decode cX3_countSigns 49 = .ok (.if_icmp .le 5, 3) := by decide +kernel
theorem dX3_countSigns_52 : decode cX3_countSigns 52 = .ok (.iconst (-1), 1) := by decide +kernel
theorem dX3_countSigns_53 : decode cX3_countSigns 53 = .ok (.ireturn, 1) := by decide +kernel
theorem dX3_countSigns_54 : decode cX3_countSigns 54 = .ok (.lload_n 2, 1) := by decide +kernel
theorem dX3_countSigns_55 : decode cX3_countSigns 55 = .ok (.bipush 8, 2) := by decide +kernel
theorem dX3_countSigns_57 : decode cX3_countSigns 57 = .ok (.lushr, 1) := by decide +kernel
theorem dX3_countSigns_58 : decode cX3_countSigns 58 = .ok (.lstore_n 2, 1) := by decide +kernel
theorem dX3_countSigns_59 : decode cX3_countSigns 59 = .ok (.iinc 4 1, 3) := by decide +kernel
theorem dX3_countSigns_62 : decode cX3_countSigns 62 = .ok (.goto (-57), 3) := by decide +kernel
theorem dX3_countSigns_65 : decode cX3_countSigns 65 = .ok (.bipush 8, 2) := by decide +kernel
theorem dX3_countSigns_67 : decode cX3_countSigns 67 = .ok (.ireturn, 1) := by decide +kernel
theorem dX3_append_0 : decode cX3_append 0 = .ok (.lload_n 1, 1) := by decide +kernel
theorem dX3_append_1 : decode cX3_append 1 = .ok (.lstore 4, 2) := by decide +kernel
theorem dX3_append_3 : decode cX3_append 3 = .ok (.iconst 0, 1) := by decide +kernel
theorem dX3_append_4 : decode cX3_append 4 = .ok (.istore 6, 2) := by decide +kernel
theorem dX3_append_6 : decode cX3_append 6 = .ok (.iload 6, 2) := by decide +kernel
theorem dX3_append_8 : decode cX3_append 8 = .ok (.iload_n 3, 1) := by decide +kernel
theorem dX3_append_9 : decode cX3_append 9 = .ok (.if_icmp .ge 44, 3) := by decide +kernel
theorem dX3_append_12 : decode cX3_append 12 = .ok (.aload_n 0, 1) := by decide +kernel
theorem dX3_append_13 : decode cX3_append 13 = .ok (.getfield 9, 3) := by decide +kernel
theorem dX3_append_16 : decode cX3_append 16 = .ok (.aload_n 0, 1) := by decide +kernel
theorem dX3_append_17 : decode cX3_append 17 = .ok (.getfield 17, 3) := by decide +kernel
theorem dX3_append_20 : decode cX3_append 20 = .ok (.lload 4, 2) := by decide +kernel
theorem dX3_append_22 : decode cX3_append 22 = .ok (.ldc2_w 15, 3) := by decide +kernel
theorem dX3_append_25 : decode cX3_append 25 = .ok (.land, 1) := by decide +kernel
theorem dX3_append_26 : decode cX3_append 26 = .ok (.l2i, 1) := by decide +kernel
theorem dX3_append_27 : decode cX3_append 27 = .ok (.invokestatic 21, 3) := by decide +kernel
theorem dX3_append_30 : decode cX3_append 30 = .ok (.aload_n 0, 1) := by decide +kernel
theorem dX3_append_31 : decode cX3_append 31 = .ok (.dup, 1) := by decide +kernel
theorem dX3_append_32 : decode cX3_append 32 = .ok (.getfield 17, 3) := by decide +kernel
theorem dX3_append_35 : decode cX3_append 35 = .ok (.iconst 1, 1) := by decide +kernel
theorem dX3_append_36 : decode cX3_append 36 = .ok (.iadd, 1) := by decide +kernel
theorem dX3_append_37 : decode cX3_append 37 = .ok (.putfield 17, 3) := by decide +kernel
theorem dX3_append_40 : decode cX3_append 40 = .ok (.lload 4, 2) := by decide +kernel
theorem dX3_append_42 : decode cX3_append 42 = .ok (.bipush 8, 2) := by decide +kernel
theorem dX3_append_44 : decode cX3_append 44 = .ok (.lushr, 1) := by decide +kernel
theorem dX3_append_45 : decode cX3_append 45 = .ok (.lstore 4, 2) := by decide +kernel
theorem dX3_append_47 : decode cX3_append 47 = .ok (.iinc 6 1, 3) := by decide +kernel
theorem dX3_append_50 : decode cX3_append 50 = .ok (.goto (-44), 3) := by decide +kernel
theorem dX3_append_53 : decode cX3_append 53 = .ok (.return_, 1) := by decide +kernel
theorem dX3_signAt_0 : decode cX3_signAt 0 = .ok (.iload_n 1, 1) := by decide +kernel
theorem dX3_signAt_1 : decode cX3_signAt 1 = .ok (.aload_n 0, 1) := by decide +kernel
theorem dX3_signAt_2 : decode cX3_signAt 2 = .ok (.getfield 17, 3) := by decide +kernel
theorem dX3_signAt_5 : decode cX3_signAt 5 = .ok (.if_icmp .ge 15, 3) := by decide +kernel
theorem dX3_signAt_8 : decode cX3_signAt 8 = .ok (.aload_n 0, 1) := by decide +kernel
theorem dX3_signAt_9 : decode cX3_signAt 9 = .ok (.getfield 9, 3) := by decide +kernel
theorem dX3_signAt_12 : decode cX3_signAt 12 = .ok (.iload_n 1, 1) := by decide +kernel
theorem dX3_signAt_13 : decode cX3_signAt 13 = .ok (.invokestatic 25, 3) := by decide +kernel
theorem dX3_signAt_16 : decode cX3_signAt 16 = .ok (.i2c, 1) := by decide +kernel
theorem dX3_signAt_17 : decode cX3_signAt 17 = .ok (.goto 4, 3) := by decide +kernel
theorem dX3_signAt_20 : decode cX3_signAt 20 = .ok (.iconst 0, 1) := by decide +kernel
theorem dX3_signAt_21 : decode cX3_signAt 21 = .ok (.ireturn, 1) := by decide +kernel
theorem dX4_init_0 : decode cX4_init 0 = .ok (.aload_n 0, 1) := by decide +kernel
theorem dX4_init_1 : decode cX4_init 1 = .ok (.invokespecial 3, 3) := by decide +kernel
theorem dX4_init_4 : decode cX4_init 4 = .ok (.aload_n 0, 1) := by decide +kernel
theorem dX4_init_5 : decode cX4_init 5 = .ok (.bipush 60, 2) := by decide +kernel
theorem dX4_init_7 : decode cX4_init 7 = .ok (.newarray .int, 2) := by decide +kernel
theorem dX4_init_9 : decode cX4_init 9 = .ok (.putfield 9, 3) := by decide +kernel
theorem dX4_init_12 : decode cX4_init 12 = .ok (.aload_n 0, 1) := by decide +kernel
theorem dX4_init_13 : decode cX4_init 13 = .ok (.bipush 60, 2) := by decide +kernel
theorem dX4_init_15 : decode cX4_init 15 = .ok (.newarray .int, 2) := by decide +kernel
theorem dX4_init_17 : decode cX4_init 17 = .ok (.putfield 15, 3) := by decide +kernel
theorem dX4_init_20 : decode cX4_init 20 = .ok (.aload_n 0, 1) := by decide +kernel
theorem dX4_init_21 : decode cX4_init 21 = .ok (.bipush 60, 2) := by decide +kernel
theorem dX4_init_23 : decode cX4_init 23 = .ok (.newarray .int, 2) := by decide +kernel
theorem dX4_init_25 : decode cX4_init 25 = .ok (.putfield 18, 3) := by decide +kernel
theorem dX4_init_28 : decode cX4_init 28 = .ok (.aload_n 0, 1) := by decide +kernel
theorem dX4_init_29 : decode cX4_init 29 = .ok (.bipush 60, 2) := by decide +kernel
theorem dX4_init_31 : decode cX4_init 31 = .ok (.newarray .int, 2) := by decide +kernel
theorem dX4_init_33 : decode cX4_init 33 = .ok (.putfield 21, 3) := by decide +kernel
theorem dX4_init_36 : decode cX4_init 36 = .ok (.return_, 1) := by decide +kernel
theorem dX4_tell_0 : decode cX4_tell 0 = .ok (.aload_n 0, 1) := by decide +kernel
theorem dX4_tell_1 : decode cX4_tell 1 = .ok (.getfield 24, 3) := by decide +kernel
theorem dX4_tell_4 : decode cX4_tell 4 = .ok (.istore 5, 2) := by decide +kernel
theorem dX4_tell_6 : decode cX4_tell 6 = .ok (.aload_n 0, 1) := by decide +kernel
theorem dX4_tell_7 : decode cX4_tell 7 = .ok (.getfield 9, 3) := by decide +kernel
theorem dX4_tell_10 : decode cX4_tell 10 = .ok (.iload 5, 2) := by decide +kernel
theorem dX4_tell_12 : decode cX4_tell 12 = .ok (.iload_n 1, 1) := by decide +kernel
theorem dX4_tell_13 : decode cX4_tell 13 = .ok (.invokestatic 28, 3) := by decide +kernel
theorem dX4_tell_16 : decode cX4_tell 16 = .ok (.aload_n 0, 1) := by decide +kernel
theorem dX4_tell_17 : decode cX4_tell 17 = .ok (.getfield 15, 3) := by decide +kernel
theorem dX4_tell_20 : decode cX4_tell 20 = .ok (.iload 5, 2) := by decide +kernel
theorem dX4_tell_22 : decode cX4_tell 22 = .ok (.iload_n 2, 1) := by decide +kernel
theorem dX4_tell_23 : decode cX4_tell 23 = .ok (.invokestatic 28, 3) := by decide +kernel
theorem dX4_tell_26 : decode cX4_tell 26 = .ok (.aload_n 0, 1) := by decide +kernel
theorem dX4_tell_27 : decode cX4_tell 27 = .ok (.getfield 18, 3) := by decide +kernel
theorem dX4_tell_30 : decode cX4_tell 30 = .ok (.iload 5, 2) := by decide +kernel
theorem dX4_tell_32 : decode cX4_tell 32 = .ok (.iload_n 3, 1) := by decide +kernel
theorem dX4_tell_33 : decode cX4_tell 33 = .ok (.invokestatic 28, 3) := by decide +kernel
theorem dX4_tell_36 : decode cX4_tell 36 = .ok (.aload_n 0, 1) := by decide +kernel
theorem dX4_tell_37 : decode cX4_tell 37 = .ok (.getfield 21, 3) := by decide +kernel
theorem dX4_tell_40 : decode cX4_tell 40 = .ok (.iload 5, 2) := by decide +kernel
theorem dX4_tell_42 : decode cX4_tell 42 = .ok (.iload 4, 2) := by decide +kernel
theorem dX4_tell_44 : decode cX4_tell 44 = .ok (.invokestatic 28, 3) := by decide +kernel
theorem dX4_tell_47 : decode cX4_tell 47 = .ok (.aload_n 0, 1) := by decide +kernel
theorem dX4_tell_48 : decode cX4_tell 48 = .ok (.iload 5, 2) := by decide +kernel
theorem dX4_tell_50 : decode cX4_tell 50 = .ok (.iconst 1, 1) := by decide +kernel
theorem dX4_tell_51 : decode cX4_tell 51 = .ok (.iadd, 1) := by decide +kernel
theorem dX4_tell_52 : decode cX4_tell 52 = .ok (.putfield 24, 3) := by decide +kernel
theorem dX4_tell_55 : decode cX4_tell 55 = .ok (.iload 5, 2) := by decide +kernel
theorem dX4_tell_57 : decode cX4_tell 57 = .ok (.ireturn, 1) := by decide +kernel
theorem dX4_known_0 : decode cX4_known 0 = .ok (.iconst (-1), 1) := by decide +kernel
theorem dX4_known_1 : decode cX4_known 1 = .ok (.istore 4, 2) := by decide +kernel
theorem dX4_known_3 : decode cX4_known 3 = .ok (.iconst (-1), 1) := by decide +kernel
theorem dX4_known_4 : decode cX4_known 4 = .ok (.istore 5, 2) := by decide +kernel
theorem dX4_known_6 : decode cX4_known 6 = .ok (.iconst 0, 1) := by decide +kernel
theorem dX4_known_7 : decode cX4_known 7 = .ok (.istore 6, 2) := by decide +kernel
theorem dX4_known_9 : decode cX4_known 9 = .ok (.iload 6, 2) := by decide +kernel
theorem dX4_known_11 : decode cX4_known 11 = .ok (.aload_n 0, 1) := by decide +kernel
theorem dX4_known_12 : decode cX4_known 12 = .ok (.getfield 24, 3) := by decide +kernel
theorem dX4_known_15 : decode cX4_known 15 = .ok (.if_icmp .ge 67, 3) := by decide +kernel
theorem dX4_known_18 : decode cX4_known 18 = .ok (.aload_n 0, 1) := by decide +kernel
theorem dX4_known_19 : decode cX4_known 19 = .ok (.getfield 21, 3) := by decide +kernel
theorem dX4_known_22 : decode cX4_known 22 = .ok (.iload 6, 2) := by decide +kernel
theorem dX4_known_24 : decode cX4_known 24 = .ok (.invokestatic 32, 3) := by decide +kernel
theorem dX4_known_27 : decode cX4_known 27 = .ok (.istore 7, 2) := by decide +kernel
theorem dX4_known_29 : decode cX4_known 29 = .ok (.aload_n 0, 1) := by decide +kernel
theorem dX4_known_30 : decode cX4_known 30 = .ok (.getfield 9, 3) := by decide +kernel
theorem dX4_known_33 : decode cX4_known 33 = .ok (.iload 6, 2) := by decide +kernel
theorem dX4_known_35 : decode cX4_known 35 = .ok (.invokestatic 32, 3) := by decide +kernel
theorem dX4_known_38 : decode cX4_known 38 = .ok (.iload_n 1, 1) := by decide +kernel
theorem dX4_known_39 : decode cX4_known 39 = .ok (.if_icmp .ne 37, 3) := by decide +kernel
theorem dX4_known_42 : decode cX4_known 42 = .ok (.aload_n 0, 1) := by decide +kernel
theorem dX4_known_43 : decode cX4_known 43 = .ok (.getfield 15, 3) := by decide +kernel
theorem dX4_known_46 : decode cX4_known 46 = .ok (.iload 6, 2) := by decide +kernel
theorem dX4_known_48 : decode cX4_known 48 = .ok (.invokestatic 32, 3) := by decide +kernel
theorem dX4_known_51 : decode cX4_known 51 = .ok (.iload_n 2, 1) := by decide +kernel
theorem dX4_known_52 : decode cX4_known 52 = .ok (.if_icmp .ne 24, 3) := by decide +kernel
theorem dX4_known_55 : decode cX4_known 55 = .ok (.iload 7, 2) := by decide +kernel
theorem dX4_known_57 : decode cX4_known 57 = .ok (.iload_n 3, 1) := by decide +kernel
theorem dX4_known_58 : decode cX4_known 58 = .ok (.if_icmp .gt 18, 3) := by decide +kernel
theorem dX4_known_61 : decode cX4_known 61 = .ok (.iload 7, 2) := by decide +kernel
theorem dX4_known_63 : decode cX4_known 63 = .ok (.iload 5, 2) := by decide +kernel
theorem dX4_known_65 : decode cX4_known 65 = .ok (.if_icmp .lt 11, 3) := by decide +kernel
theorem dX4_known_68 : decode cX4_known 68 = .ok (.iload 6, 2) := by decide +kernel
theorem dX4_known_70 : decode cX4_known 70 = .ok (.istore 4, 2) := by decide +kernel
theorem dX4_known_72 : decode cX4_known 72 = .ok (.iload 7, 2) := by decide +kernel
theorem dX4_known_74 : decode cX4_known 74 = .ok (.istore 5, 2) := by decide +kernel
theorem dX4_known_76 : decode cX4_known 76 = .ok (.iinc 6 1, 3) := by decide +kernel
theorem dX4_known_79 : decode cX4_known 79 = .ok (.goto (-70), 3) := by decide +kernel
theorem dX4_known_82 : decode cX4_known 82 = .ok (.iload 4, 2) := by decide +kernel
theorem dX4_known_84 : decode cX4_known 84 = .ok (.ireturn, 1) := by decide +kernel
theorem dX4_fillTellings_0 : decode cX4_fillTellings 0 = .ok (.iconst 0, 1) := by decide +kernel
theorem dX4_fillTellings_1 : decode cX4_fillTellings 1 = .ok (.istore 4, 2) := by decide +kernel
theorem dX4_fillTellings_3 : decode cX4_fillTellings 3 = .ok (.iload 4, 2) := by decide +kernel
theorem dX4_fillTellings_5 : decode cX4_fillTellings 5 = .ok (.iconst 4, 1) := by decide +kernel
theorem dX4_fillTellings_6 : decode cX4_fillTellings 6 = .ok (.if_icmp .ge 23, 3) := by decide +kernel
theorem dX4_fillTellings_9 : decode cX4_fillTellings 9 = .ok (.aload_n 3, 1) := by decide +kernel
theorem dX4_fillTellings_10 : decode cX4_fillTellings 10 = .ok (.iload 4, 2) := by decide +kernel
theorem dX4_fillTellings_12 : decode cX4_fillTellings 12 = .ok (.aload_n 0, 1) := by decide +kernel
theorem dX4_fillTellings_13 : decode cX4_fillTellings 13 = .ok (.iload_n 1, 1) := by decide +kernel
theorem dX4_fillTellings_14 : decode cX4_fillTellings 14 = .ok (.iload 4, 2) := by decide +kernel
theorem dX4_fillTellings_16 : decode cX4_fillTellings 16 = .ok (.iload_n 2, 1) := by decide +kernel
theorem dX4_fillTellings_17 : decode cX4_fillTellings 17 = .ok (.invokevirtual 36, 3) := by decide +kernel
theorem dX4_fillTellings_20 : decode cX4_fillTellings 20 = .ok (.invokestatic 28, 3) := by decide +kernel
theorem dX4_fillTellings_23 : decode cX4_fillTellings 23 = .ok (.iinc 4 1, 3) := by decide +kernel
theorem dX4_fillTellings_26 : decode cX4_fillTellings 26 = .ok (.goto (-23), 3) := by decide +kernel
theorem dX4_fillTellings_29 : decode cX4_fillTellings 29 = .ok (.return_, 1) := by decide +kernel
theorem dX4_fillHundredths_0 : decode cX4_fillHundredths 0 = .ok (.iconst 0, 1) := by decide +kernel
theorem dX4_fillHundredths_1 : decode cX4_fillHundredths 1 = .ok (.istore 4, 2) := by decide +kernel
theorem dX4_fillHundredths_3 : decode cX4_fillHundredths 3 = .ok (.iload 4, 2) := by decide +kernel
theorem dX4_fillHundredths_5 : decode cX4_fillHundredths 5 = .ok (.iconst 4, 1) := by decide +kernel
theorem dX4_fillHundredths_6 : decode cX4_fillHundredths 6 = .ok (.if_icmp .ge 44, 3) := by decide +kernel
theorem dX4_fillHundredths_9 : decode cX4_fillHundredths 9 = .ok (.aload_n 0, 1) := by decide +kernel
theorem dX4_fillHundredths_10 : decode cX4_fillHundredths 10 = .ok (.iload_n 1, 1) := by decide +kernel
theorem dX4_fillHundredths_11 : decode cX4_fillHundredths 11 = .ok (.iload 4, 2) := by decide +kernel
theorem dX4_fillHundredths_13 : decode cX4_fillHundredths 13 = .ok (.iload_n 2, 1) := by decide +kernel
theorem dX4_fillHundredths_14 : decode cX4_fillHundredths 14 = .ok (.invokevirtual 36, 3) := by decide +kernel
theorem dX4_fillHundredths_17 : decode cX4_fillHundredths 17 = .ok (.istore 5, 2) := by decide +kernel
theorem dX4_fillHundredths_19 : decode cX4_fillHundredths 19 = .ok (.aload_n 3, 1) := by decide +kernel
theorem dX4_fillHundredths_20 : decode cX4_fillHundredths 20 = .ok (.iload 4, 2) := by decide +kernel
theorem dX4_fillHundredths_22 : decode cX4_fillHundredths 22 = .ok (.iload 5, 2) := by decide +kernel
theorem dX4_fillHundredths_24 : decode cX4_fillHundredths 24 = .ok (.iconst (-1), 1) := by decide +kernel
theorem dX4_fillHundredths_25 : decode cX4_fillHundredths 25 = .ok (.if_icmp .ne 7, 3) := by decide +kernel
theorem dX4_fillHundredths_28 : decode cX4_fillHundredths 28 = .ok (.iconst 0, 1) := by decide +kernel
theorem dX4_fillHundredths_29 : decode cX4_fillHundredths 29 = .ok (.goto 12, 3) := by decide +kernel
theorem dX4_fillHundredths_32 : decode cX4_fillHundredths 32 = .ok (.aload_n 0, 1) := by decide +kernel
theorem dX4_fillHundredths_33 : decode cX4_fillHundredths 33 = .ok (.getfield 18, 3) := by decide +kernel
theorem dX4_fillHundredths_36 : decode cX4_fillHundredths 36 = .ok (.iload 5, 2) := by decide +kernel
theorem dX4_fillHundredths_38 : decode cX4_fillHundredths 38 = .ok (.invokestatic 32, 3) := by decide +kernel
theorem dX4_fillHundredths_41 : decode cX4_fillHundredths 41 = .ok (.invokestatic 28, 3) := by decide +kernel
theorem dX4_fillHundredths_44 : decode cX4_fillHundredths 44 = .ok (.iinc 4 1, 3) := by decide +kernel
theorem dX4_fillHundredths_47 : decode cX4_fillHundredths 47 = .ok (.goto (-44), 3) := by decide +kernel
theorem dX4_fillHundredths_50 : decode cX4_fillHundredths 50 = .ok (.return_, 1) := by decide +kernel
