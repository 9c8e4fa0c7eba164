theorem dX10_rankAhead_31 : decode cX10_rankAhead 31 = .ok (.ifCond .ge 11, 3) := by decide +kernel
theorem dX10_rankAhead_34 : decode cX10_rankAhead 34 = .ok (.iload 5, 2) := by decide +kernel
theorem dX10_rankAhead_36 : decode cX10_rankAhead 36 = .ok (.iconst 1, 1) := by decide +kernel
theorem dX10_rankAhead_37 : decode cX10_rankAhead 37 = .ok (.iadd, 1) := by decide +kernel
theorem dX10_rankAhead_38 : decode cX10_rankAhead 38 = .ok (.istore_n 3, 1) := by decide +kernel
theorem dX10_rankAhead_39 : decode cX10_rankAhead 39 = .ok (.goto 7, 3) := by decide +kernel
theorem dX10_rankAhead_42 : decode cX10_rankAhead 42 = .ok (.iload 5, 2) := by decide +kernel
theorem dX10_rankAhead_44 : decode cX10_rankAhead 44 = .ok (.istore 4, 2) := by decide +kernel
theorem dX10_rankAhead_46 : decode cX10_rankAhead 46 = .ok (.goto (-38), 3) := by decide +kernel
theorem dX10_rankAhead_49 : decode cX10_rankAhead 49 = .ok (.iload_n 3, 1) := by decide +kernel
theorem dX10_rankAhead_50 : decode cX10_rankAhead 50 = .ok (.ireturn, 1) := by decide +kernel
theorem dX10_rankOf_0 : decode cX10_rankOf 0 = .ok (.aload_n 0, 1) := by decide +kernel
theorem dX10_rankOf_1 : decode cX10_rankOf 1 = .ok (.lload_n 1, 1) := by decide +kernel
theorem dX10_rankOf_2 : decode cX10_rankOf 2 = .ok (.invokevirtual 41, 3) := by decide +kernel
theorem dX10_rankOf_5 : decode cX10_rankOf 5 = .ok (.istore_n 3, 1) := by decide +kernel
theorem dX10_rankOf_6 : decode cX10_rankOf 6 = .ok (.iload_n 3, 1) := by decide +kernel
theorem dX10_rankOf_7 : decode cX10_rankOf 7 = .ok (.aload_n 0, 1) := by decide +kernel
theorem dX10_rankOf_8 : decode cX10_rankOf 8 = .ok (.getfield 22, 3) := by decide +kernel
theorem dX10_rankOf_11 : decode cX10_rankOf 11 = .ok (.if_icmp .ge 18, 3) := by decide +kernel
theorem dX10_rankOf_14 : decode cX10_rankOf 14 = .ok (.aload_n 0, 1) := by decide +kernel
theorem dX10_rankOf_15 : decode cX10_rankOf 15 = .ok (.getfield 29, 3) := by decide +kernel
theorem dX10_rankOf_18 : decode cX10_rankOf 18 = .ok (.iload_n 3, 1) := by decide +kernel
theorem dX10_rankOf_19 : decode cX10_rankOf 19 = .ok (.laload, 1) := by decide +kernel
theorem dX10_rankOf_20 : decode cX10_rankOf 20 = .ok (.lload_n 1, 1) := by decide +kernel
theorem dX10_rankOf_21 : decode cX10_rankOf 21 = .ok (.lcmp, 1) := by decide +kernel
theorem dX10_rankOf_22 : decode cX10_rankOf 22 = .ok (.ifCond .ne 7, 3) := by decide +kernel
theorem dX10_rankOf_25 : decode cX10_rankOf 25 = .ok (.iload_n 3, 1) := by decide +kernel
theorem dX10_rankOf_26 : decode cX10_rankOf 26 = .ok (.goto 4, 3) := by decide +kernel
theorem dX10_rankOf_29 : decode cX10_rankOf 29 = .ok (.iconst (-1), 1) := by decide +kernel
theorem dX10_rankOf_30 : decode cX10_rankOf 30 = .ok (.ireturn, 1) := by decide +kernel
theorem dX10_idAt_0 : decode cX10_idAt 0 = .ok (.iload_n 1, 1) := by decide +kernel
theorem dX10_idAt_1 : decode cX10_idAt 1 = .ok (.ifCond .lt 20, 3) := by decide +kernel
theorem dX10_idAt_4 : decode cX10_idAt 4 = .ok (.iload_n 1, 1) := by decide +kernel
theorem dX10_idAt_5 : decode cX10_idAt 5 = .ok (.aload_n 0, 1) := by decide +kernel
theorem dX10_idAt_6 : decode cX10_idAt 6 = .ok (.getfield 22, 3) := by decide +kernel
theorem dX10_idAt_9 : decode cX10_idAt 9 = .ok (.if_icmp .ge 12, 3) := by decide +kernel
theorem dX10_idAt_12 : decode cX10_idAt 12 = .ok (.aload_n 0, 1) := by decide +kernel
theorem dX10_idAt_13 : decode cX10_idAt 13 = .ok (.getfield 33, 3) := by decide +kernel
theorem dX10_idAt_16 : decode cX10_idAt 16 = .ok (.iload_n 1, 1) := by decide +kernel
theorem dX10_idAt_17 : decode cX10_idAt 17 = .ok (.iaload, 1) := by decide +kernel
theorem dX10_idAt_18 : decode cX10_idAt 18 = .ok (.goto 4, 3) := by decide +kernel
theorem dX10_idAt_21 : decode cX10_idAt 21 = .ok (.iconst (-1), 1) := by decide +kernel
theorem dX10_idAt_22 : decode cX10_idAt 22 = .ok (.ireturn, 1) := by decide +kernel
theorem dX10_idOf_0 : decode cX10_idOf 0 = .ok (.aload_n 0, 1) := by decide +kernel
theorem dX10_idOf_1 : decode cX10_idOf 1 = .ok (.aload_n 0, 1) := by decide +kernel
theorem dX10_idOf_2 : decode cX10_idOf 2 = .ok (.lload_n 1, 1) := by decide +kernel
theorem dX10_idOf_3 : decode cX10_idOf 3 = .ok (.invokevirtual 45, 3) := by decide +kernel
theorem dX10_idOf_6 : decode cX10_idOf 6 = .ok (.invokevirtual 48, 3) := by decide +kernel
theorem dX10_idOf_9 : decode cX10_idOf 9 = .ok (.ireturn, 1) := by decide +kernel
theorem dX10_wordAt_0 : decode cX10_wordAt 0 = .ok (.iload_n 1, 1) := by decide +kernel
theorem dX10_wordAt_1 : decode cX10_wordAt 1 = .ok (.ifCond .lt 20, 3) := by decide +kernel
theorem dX10_wordAt_4 : decode cX10_wordAt 4 = .ok (.iload_n 1, 1) := by decide +kernel
theorem dX10_wordAt_5 : decode cX10_wordAt 5 = .ok (.aload_n 0, 1) := by decide +kernel
theorem dX10_wordAt_6 : decode cX10_wordAt 6 = .ok (.getfield 22, 3) := by decide +kernel
theorem dX10_wordAt_9 : decode cX10_wordAt 9 = .ok (.if_icmp .ge 12, 3) := by decide +kernel
theorem dX10_wordAt_12 : decode cX10_wordAt 12 = .ok (.aload_n 0, 1) := by decide +kernel
theorem dX10_wordAt_13 : decode cX10_wordAt 13 = .ok (.getfield 29, 3) := by decide +kernel
theorem dX10_wordAt_16 : decode cX10_wordAt 16 = .ok (.iload_n 1, 1) := by decide +kernel
theorem dX10_wordAt_17 : decode cX10_wordAt 17 = .ok (.laload, 1) := by decide +kernel
theorem dX10_wordAt_18 : decode cX10_wordAt 18 = .ok (.goto 4, 3) := by decide +kernel
theorem dX10_wordAt_21 : decode cX10_wordAt 21 = .ok (.lconst 0, 1) := by decide +kernel
theorem dX10_wordAt_22 : decode cX10_wordAt 22 = .ok (.lreturn, 1) := by decide +kernel
theorem dX10_add_0 : decode cX10_add 0 = .ok (.aload_n 0, 1) := by decide +kernel
theorem dX10_add_1 : decode cX10_add 1 = .ok (.getfield 22, 3) := by decide +kernel
theorem dX10_add_4 : decode cX10_add 4 = .ok (.aload_n 0, 1) := by decide +kernel
theorem dX10_add_5 : decode cX10_add 5 = .ok (.getfield 26, 3) := by decide +kernel
theorem dX10_add_8 : decode cX10_add 8 = .ok (.if_icmp .lt 5, 3) := by decide +kernel
theorem dX10_add_11 : decode cX10_add 11 = .ok (.iconst (-1), 1) := by decide +kernel
theorem dX10_add_12 : decode cX10_add 12 = .ok (.ireturn, 1) := by decide +kernel
theorem dX10_add_13 : decode cX10_add 13 = .ok (.aload_n 0, 1) := by decide +kernel
theorem dX10_add_14 : decode cX10_add 14 = .ok (.lload_n 1, 1) := by decide +kernel
theorem dX10_add_15 : decode cX10_add 15 = .ok (.invokevirtual 41, 3) := by decide +kernel
theorem dX10_add_18 : decode cX10_add 18 = .ok (.istore_n 3, 1) := by decide +kernel
theorem dX10_add_19 : decode cX10_add 19 = .ok (.aload_n 0, 1) := by decide +kernel
theorem dX10_add_20 : decode cX10_add 20 = .ok (.getfield 29, 3) := by decide +kernel
theorem dX10_add_23 : decode cX10_add 23 = .ok (.iload_n 3, 1) := by decide +kernel
theorem dX10_add_24 : decode cX10_add 24 = .ok (.aload_n 0, 1) := by decide +kernel
theorem dX10_add_25 : decode cX10_add 25 = .ok (.getfield 29, 3) := by decide +kernel
theorem dX10_add_28 : decode cX10_add 28 = .ok (.iload_n 3, 1) := by decide +kernel
theorem dX10_add_29 : decode cX10_add 29 = .ok (.iconst 1, 1) := by decide +kernel
theorem dX10_add_30 : decode cX10_add 30 = .ok (.iadd, 1) := by decide +kernel
theorem dX10_add_31 : decode cX10_add 31 = .ok (.aload_n 0, 1) := by decide +kernel
theorem dX10_add_32 : decode cX10_add 32 = .ok (.getfield 22, 3) := by decide +kernel
theorem dX10_add_35 : decode cX10_add 35 = .ok (.iload_n 3, 1) := by decide +kernel
theorem dX10_add_36 : decode cX10_add 36 = .ok (.isub, 1) := by decide +kernel
theorem dX10_add_37 : decode cX10_add 37 = .ok (.invokestatic 52, 3) := by decide +kernel
theorem dX10_add_40 : decode cX10_add 40 = .ok (.aload_n 0, 1) := by decide +kernel
theorem dX10_add_41 : decode cX10_add 41 = .ok (.getfield 33, 3) := by decide +kernel
theorem dX10_add_44 : decode cX10_add 44 = .ok (.iload_n 3, 1) := by decide +kernel
theorem dX10_add_45 : decode cX10_add 45 = .ok (.aload_n 0, 1) := by decide +kernel
theorem dX10_add_46 : decode cX10_add 46 = .ok (.getfield 33, 3) := by decide +kernel
theorem dX10_add_49 : decode cX10_add 49 = .ok (.iload_n 3, 1) := by decide +kernel
theorem dX10_add_50 : decode cX10_add 50 = .ok (.iconst 1, 1) := by decide +kernel
theorem dX10_add_51 : decode cX10_add 51 = .ok (.iadd, 1) := by decide +kernel
theorem dX10_add_52 : decode cX10_add 52 = .ok (.aload_n 0, 1) := by decide +kernel
theorem dX10_add_53 : decode cX10_add 53 = .ok (.getfield 22, 3) := by decide +kernel
theorem dX10_add_56 : decode cX10_add 56 = .ok (.iload_n 3, 1) := by decide +kernel
theorem dX10_add_57 : decode cX10_add 57 = .ok (.isub, 1) := by decide +kernel
theorem dX10_add_58 : decode cX10_add 58 = .ok (.invokestatic 52, 3) := by decide +kernel
theorem dX10_add_61 : decode cX10_add 61 = .ok (.aload_n 0, 1) := by decide +kernel
theorem dX10_add_62 : decode cX10_add 62 = .ok (.getfield 29, 3) := by decide +kernel
theorem dX10_add_65 : decode cX10_add 65 = .ok (.iload_n 3, 1) := by decide +kernel
theorem dX10_add_66 : decode cX10_add 66 = .ok (.lload_n 1, 1) := by decide +kernel
theorem dX10_add_67 : decode cX10_add 67 = .ok (.lastore, 1) := by decide +kernel
theorem dX10_add_68 : decode cX10_add 68 = .ok (.aload_n 0, 1) := by decide +kernel
theorem dX10_add_69 : decode cX10_add 69 = .ok (.getfield 33, 3) := by decide +kernel
theorem dX10_add_72 : decode cX10_add 72 = .ok (.iload_n 3, 1) := by decide +kernel
theorem dX10_add_73 : decode cX10_add 73 = .ok (.aload_n 0, 1) := by decide +kernel
theorem dX10_add_74 : decode cX10_add 74 = .ok (.getfield 22, 3) := by decide +kernel
theorem dX10_add_77 : decode cX10_add 77 = .ok (.iastore, 1) := by decide +kernel
theorem dX10_add_78 : decode cX10_add 78 = .ok (.aload_n 0, 1) := by decide +kernel
theorem dX10_add_79 : decode cX10_add 79 = .ok (.dup, 1) := by decide +kernel
theorem dX10_add_80 : decode cX10_add 80 = .ok (.getfield 22, 3) := by decide +kernel
theorem dX10_add_83 : decode cX10_add 83 = .ok (.iconst 1, 1) := by decide +kernel
theorem dX10_add_84 : decode cX10_add 84 = .ok (.iadd, 1) := by decide +kernel
theorem dX10_add_85 : decode cX10_add 85 = .ok (.putfield 22, 3) := by decide +kernel
theorem dX10_add_88 : decode cX10_add 88 = .ok (.aload_n 0, 1) := by decide +kernel
theorem dX10_add_89 : decode cX10_add 89 = .ok (.getfield 22, 3) := by decide +kernel
theorem dX10_add_92 : decode cX10_add 92 = .ok (.iconst 1, 1) := by decide +kernel
theorem dX10_add_93 : decode cX10_add 93 = .ok (.isub, 1) := by decide +kernel
theorem dX10_add_94 : decode cX10_add 94 = .ok (.ireturn, 1) := by decide +kernel
theorem dX10_forget_0 : decode cX10_forget 0 = .ok (.iload_n 1, 1) := by decide +kernel
theorem dX10_forget_1 : decode cX10_forget 1 = .ok (.aload_n 0, 1) := by decide +kernel
theorem dX10_forget_2 : decode cX10_forget 2 = .ok (.getfield 22, 3) := by decide +kernel
theorem dX10_forget_5 : decode cX10_forget 5 = .ok (.if_icmp .lt 4, 3) := by decide +kernel
theorem dX10_forget_8 : decode cX10_forget 8 = .ok (.return_, 1) := by decide +kernel
theorem dX10_forget_9 : decode cX10_forget 9 = .ok (.iload_n 1, 1) := by decide +kernel
theorem dX10_forget_10 : decode cX10_forget 10 = .ok (.istore_n 2, 1) := by decide +kernel
theorem dX10_forget_11 : decode cX10_forget 11 = .ok (.iload_n 2, 1) := by decide +kernel
theorem dX10_forget_12 : decode cX10_forget 12 = .ok (.aload_n 0, 1) := by decide +kernel
theorem dX10_forget_13 : decode cX10_forget 13 = .ok (.getfield 22, 3) := by decide +kernel
theorem dX10_forget_16 : decode cX10_forget 16 = .ok (.if_icmp .ge 14, 3) := by decide +kernel
theorem dX10_forget_19 : decode cX10_forget 19 = .ok (.aload_n 0, 1) := by decide +kernel
theorem dX10_forget_20 : decode cX10_forget 20 = .ok (.iload_n 2, 1) := by decide +kernel
theorem dX10_forget_21 : decode cX10_forget 21 = .ok (.invokevirtual 58, 3) := by decide +kernel
theorem dX10_forget_24 : decode cX10_forget 24 = .ok (.iinc 2 1, 3) := by decide +kernel
theorem dX10_forget_27 : decode cX10_forget 27 = .ok (.goto (-16), 3) := by decide +kernel
theorem dX10_forget_30 : decode cX10_forget 30 = .ok (.aload_n 0, 1) := by decide +kernel
theorem dX10_forget_31 : decode cX10_forget 31 = .ok (.invokevirtual 62, 3) := by decide +kernel
theorem dX10_forget_34 : decode cX10_forget 34 = .ok (.return_, 1) := by decide +kernel
theorem dX10_strike_0 : decode cX10_strike 0 = .ok (.iload_n 1, 1) := by decide +kernel
theorem dX10_strike_1 : decode cX10_strike 1 = .ok (.ifCond .lt 18, 3) := by decide +kernel
theorem dX10_strike_4 : decode cX10_strike 4 = .ok (.iload_n 1, 1) := by decide +kernel
theorem dX10_strike_5 : decode cX10_strike 5 = .ok (.aload_n 0, 1) := by decide +kernel
theorem dX10_strike_6 : decode cX10_strike 6 = .ok (.getfield 22, 3) := by decide +kernel
theorem dX10_strike_9 : decode cX10_strike 9 = .ok (.if_icmp .ge 10, 3) := by decide +kernel
theorem dX10_strike_12 : decode cX10_strike 12 = .ok (.aload_n 0, 1) := by decide +kernel
theorem dX10_strike_13 : decode cX10_strike 13 = .ok (.getfield 36, 3) := by decide +kernel
theorem dX10_strike_16 : decode cX10_strike 16 = .ok (.iload_n 1, 1) := by decide +kernel
theorem dX10_strike_17 : decode cX10_strike 17 = .ok (.iconst (-1), 1) := by decide +kernel
theorem dX10_strike_18 : decode cX10_strike 18 = .ok (.iastore, 1) := by decide +kernel
theorem dX10_strike_19 : decode cX10_strike 19 = .ok (.return_, 1) := by decide +kernel
theorem dX10_closeRanks_0 : decode cX10_closeRanks 0 = .ok (.iconst 0, 1) := by decide +kernel
theorem dX10_closeRanks_1 : decode cX10_closeRanks 1 = .ok (.istore_n 1, 1) := by decide +kernel
theorem dX10_closeRanks_2 : decode cX10_closeRanks 2 = .ok (.iconst 0, 1) := by decide +kernel
theorem dX10_closeRanks_3 : decode cX10_closeRanks 3 = .ok (.istore_n 2, 1) := by decide +kernel
theorem dX10_closeRanks_4 : decode cX10_closeRanks 4 = .ok (.iload_n 2, 1) := by decide +kernel
theorem dX10_closeRanks_5 : decode cX10_closeRanks 5 = .ok (.aload_n 0, 1) := by decide +kernel
theorem dX10_closeRanks_6 : decode cX10_closeRanks 6 = .ok (.getfield 22, 3) := by decide +kernel
theorem dX10_closeRanks_9 : decode cX10_closeRanks 9 = .ok (.if_icmp .ge 29, 3) := by decide +kernel
theorem dX10_closeRanks_12 : decode cX10_closeRanks 12 = .ok (.aload_n 0, 1) := by decide +kernel
theorem dX10_closeRanks_13 : decode cX10_closeRanks 13 = .ok (.getfield 36, 3) := by decide +kernel
theorem dX10_closeRanks_16 : decode cX10_closeRanks 16 = .ok (.iload_n 2, 1) := by decide +kernel
theorem dX10_closeRanks_17 : decode cX10_closeRanks 17 = .ok (.iaload, 1) := by decide +kernel
theorem dX10_closeRanks_18 : decode cX10_closeRanks 18 = .ok (.iconst (-1), 1) := by decide +kernel
theorem dX10_closeRanks_19 : decode cX10_closeRanks 19 = .ok (.if_icmp .eq 13, 3) := by decide +kernel
theorem dX10_closeRanks_22 : decode cX10_closeRanks 22 = .ok (.aload_n 0, 1) := by decide +kernel
theorem dX10_closeRanks_23 : decode cX10_closeRanks 23 = .ok (.getfield 36, 3) := by decide +kernel
theorem dX10_closeRanks_26 : decode cX10_closeRanks 26 = .ok (.iload_n 2, 1) := by decide +kernel
theorem dX10_closeRanks_27 : decode cX10_closeRanks 27 = .ok (.iload_n 1, 1) := by decide +kernel
theorem dX10_closeRanks_28 : decode cX10_closeRanks 28 = .ok (.iastore, 1) := by decide +kernel
theorem dX10_closeRanks_29 : decode cX10_closeRanks 29 = .ok (.iinc 1 1, 3) := by decide +kernel
theorem dX10_closeRanks_32 : decode cX10_closeRanks 32 = .ok (.iinc 2 1, 3) := by decide +kernel
theorem dX10_closeRanks_35 : decode cX10_closeRanks 35 = .ok (.goto (-31), 3) := by decide +kernel
theorem dX10_closeRanks_38 : decode cX10_closeRanks 38 = .ok (.iconst 0, 1) := by decide +kernel
theorem dX10_closeRanks_39 : decode cX10_closeRanks 39 = .ok (.istore_n 2, 1) := by decide +kernel
theorem dX10_closeRanks_40 : decode cX10_closeRanks 40 = .ok (.iconst 0, 1) := by decide +kernel
theorem dX10_closeRanks_41 : decode cX10_closeRanks 41 = .ok (.istore_n 3, 1) := by decide +kernel
theorem dX10_closeRanks_42 : decode cX10_closeRanks 42 = .ok (.iload_n 3, 1) := by decide +kernel
theorem dX10_closeRanks_43 : decode cX10_closeRanks 43 = .ok (.aload_n 0, 1) := by decide +kernel
theorem dX10_closeRanks_44 : decode cX10_closeRanks 44 = .ok (.getfield 22, 3) := by decide +kernel
theorem dX10_closeRanks_47 : decode cX10_closeRanks 47 = .ok (.if_icmp .ge 51, 3) := by decide +kernel
theorem dX10_closeRanks_50 : decode cX10_closeRanks 50 = .ok (.aload_n 0, 1) := by decide +kernel
theorem dX10_closeRanks_51 : decode cX10_closeRanks 51 = .ok (.getfield 36, 3) := by decide +kernel
theorem dX10_closeRanks_54 : decode cX10_closeRanks 54 = .ok (.aload_n 0, 1) := by decide +kernel
theorem dX10_closeRanks_55 : decode cX10_closeRanks 55 = .ok (.getfield 33, 3) := by decide +kernel
theorem dX10_closeRanks_58 : decode cX10_closeRanks 58 = .ok (.iload_n 3, 1) := by decide +kernel
theorem dX10_closeRanks_59 : decode cX10_closeRanks 59 = .ok (.iaload, 1) := by decide +kernel
theorem dX10_closeRanks_60 : decode cX10_closeRanks 60 = .ok (.iaload, 1) := by decide +kernel
theorem dX10_closeRanks_61 : decode cX10_closeRanks 61 = .ok (.istore 4, 2) := by decide +kernel
theorem dX10_closeRanks_63 : decode cX10_closeRanks 63 = .ok (.iload 4, 2) := by decide +kernel
theorem dX10_closeRanks_65 : decode cX10_closeRanks 65 = .ok (.iconst (-1), 1) := by decide +kernel
theorem dX10_closeRanks_66 : decode cX10_closeRanks 66 = .ok (.if_icmp .eq 26, 3) := by decide +kernel
theorem dX10_closeRanks_69 : decode cX10_closeRanks 69 = .ok (.aload_n 0, 1) := by decide +kernel
theorem dX10_closeRanks_70 : decode cX10_closeRanks 70 = .ok (.getfield 29, 3) := by decide +kernel
theorem dX10_closeRanks_73 : decode cX10_closeRanks 73 = .ok (.iload_n 2, 1) := by decide +kernel
theorem dX10_closeRanks_74 : decode cX10_closeRanks 74 = .ok (.aload_n 0, 1) := by decide +kernel
theorem dX10_closeRanks_75 : decode cX10_closeRanks 75 = .ok (.getfield 29, 3) := by decide +kernel
theorem dX10_closeRanks_78 : decode cX10_closeRanks 78 = .ok (.iload_n 3, 1) := by decide +kernel
theorem dX10_closeRanks_79 : decode cX10_closeRanks 79 = .ok (.laload, 1) := by decide +kernel
theorem dX10_closeRanks_80 : decode cX10_closeRanks 80 = .ok (.lastore, 1) := by decide +kernel
theorem dX10_closeRanks_81 : decode cX10_closeRanks 81 = .ok (.aload_n 0, 1) := by decide +kernel
theorem dX10_closeRanks_82 : decode cX10_closeRanks 82 = .ok (.getfield 33, 3) := by decide +kernel
theorem dX10_closeRanks_85 : decode cX10_closeRanks 85 = .ok (.iload_n 2, 1) := by decide +kernel
theorem dX10_closeRanks_86 : decode cX10_closeRanks 86 = .ok (.iload 4, 2) := by decide +kernel
theorem dX10_closeRanks_88 : decode cX10_closeRanks 88 = .ok (.iastore, 1) := by decide +kernel
theorem dX10_closeRanks_89 : decode cX10_closeRanks 89 = .ok (.iinc 2 1, 3) := by decide +kernel
theorem dX10_closeRanks_92 : decode cX10_closeRanks 92 = .ok (.iinc 3 1, 3) := by decide +kernel
theorem dX10_closeRanks_95 : decode cX10_closeRanks 95 = .ok (.goto (-53), 3) := by decide +kernel
theorem dX10_closeRanks_98 : decode cX10_closeRanks 98 = .ok (.aload_n 0, 1) := by decide +kernel
theorem dX10_closeRanks_99 : decode cX10_closeRanks 99 = .ok (.getfield 36, 3) := by decide +kernel
theorem dX10_closeRanks_102 : decode cX10_closeRanks 102 = .ok (.iconst 0, 1) := by decide +kernel
theorem dX10_closeRanks_103 : decode cX10_closeRanks 103 = .ok (.invokestatic 65, 3) := by decide +kernel
theorem dX10_closeRanks_106 : decode cX10_closeRanks 106 = .ok (.aload_n 0, 1) := by decide +kernel
theorem dX10_closeRanks_107 : decode cX10_closeRanks 107 = .ok (.iload_n 1, 1) := by decide +kernel
theorem dX10_closeRanks_108 : decode cX10_closeRanks 108 = .ok (.putfield 22, 3) := by decide +kernel
theorem dX10_closeRanks_111 : decode cX10_closeRanks 111 = .ok (.return_, 1) := by decide +kernel
theorem dX10_distance_0 : decode cX10_distance 0 = .ok (.lload_n 1, 1) := by decide +kernel
theorem dX10_distance_1 : decode cX10_distance 1 = .ok (.aload_n 0, 1) := by decide +kernel
theorem dX10_distance_2 : decode cX10_distance 2 = .ok (.getfield 9, 3) := by decide +kernel
theorem dX10_distance_5 : decode cX10_distance 5 = .ok (.invokestatic 71, 3) := by decide +kernel
theorem dX10_distance_8 : decode cX10_distance 8 = .ok (.istore 6, 2) := by decide +kernel
theorem dX10_distance_10 : decode cX10_distance 10 = .ok (.lload_n 3, 1) := by decide +kernel
theorem dX10_distance_11 : decode cX10_distance 11 = .ok (.aload_n 0, 1) := by decide +kernel
theorem dX10_distance_12 : decode cX10_distance 12 = .ok (.getfield 15, 3) := by decide +kernel
theorem dX10_distance_15 : decode cX10_distance 15 = .ok (.invokestatic 71, 3) := by decide +kernel
theorem dX10_distance_18 : decode cX10_distance 18 = .ok (.istore 7, 2) := by decide +kernel
theorem dX10_distance_20 : decode cX10_distance 20 = .ok (.iload 6, 2) := by decide +kernel
theorem dX10_distance_22 : decode cX10_distance 22 = .ok (.iload 7, 2) := by decide +kernel
theorem dX10_distance_24 : decode cX10_distance 24 = .ok (.isub, 1) := by decide +kernel
theorem dX10_distance_25 : decode cX10_distance 25 = .ok (.invokestatic 75, 3) := by decide +kernel
theorem dX10_distance_28 : decode cX10_distance 28 = .ok (.iload 5, 2) := by decide +kernel
theorem dX10_distance_30 : decode cX10_distance 30 = .ok (.if_icmp .le 8, 3) := by decide +kernel
theorem dX10_distance_33 : decode cX10_distance 33 = .ok (.iload 5, 2) := by decide +kernel
theorem dX10_distance_35 : decode cX10_distance 35 = .ok (.iconst 1, 1) := by decide +kernel
theorem dX10_distance_36 : decode cX10_distance 36 = .ok (.iadd, 1) := by decide +kernel
theorem dX10_distance_37 : decode cX10_distance 37 = .ok (.ireturn, 1) := by decide +kernel
theorem dX10_distance_38 : decode cX10_distance 38 = .ok (.iconst 0, 1) := by decide +kernel
theorem dX10_distance_39 : decode cX10_distance 39 = .ok (.istore 8, 2) := by decide +kernel
theorem dX10_distance_41 : decode cX10_distance 41 = .ok (.iload 8, 2) := by decide +kernel
theorem dX10_distance_43 : decode cX10_distance 43 = .ok (.iload 7, 2) := by decide +kernel
theorem dX10_distance_45 : decode cX10_distance 45 = .ok (.if_icmp .gt 18, 3) := by decide +kernel
theorem dX10_distance_48 : decode cX10_distance 48 = .ok (.aload_n 0, 1) := by decide +kernel
theorem dX10_distance_49 : decode cX10_distance 49 = .ok (.getfield 18, 3) := by decide +kernel
theorem dX10_distance_52 : decode cX10_distance 52 = .ok (.iload 8, 2) := by decide +kernel
theorem dX10_distance_54 : decode cX10_distance 54 = .ok (.iload 8, 2) := by decide +kernel
theorem dX10_distance_56 : decode cX10_distance 56 = .ok (.iastore, 1) := by decide +kernel
theorem dX10_distance_57 : decode cX10_distance 57 = .ok (.iinc 8 1, 3) := by decide +kernel
theorem dX10_distance_60 : decode cX10_distance 60 = .ok (.goto (-19), 3) := by decide +kernel
theorem dX10_distance_63 : decode cX10_distance 63 = .ok (.iconst 1, 1) := by decide +kernel
theorem dX10_distance_64 : decode cX10_distance 64 = .ok (.istore 8, 2) := by decide +kernel
theorem dX10_distance_66 : decode cX10_distance 66 = .ok (.iload 8, 2) := by decide +kernel
theorem dX10_distance_68 : decode cX10_distance 68 = .ok (.iload 6, 2) := by decide +kernel
theorem dX10_distance_70 : decode cX10_distance 70 = .ok (.if_icmp .gt 27, 3) := by decide +kernel
theorem dX10_distance_73 : decode cX10_distance 73 = .ok (.aload_n 0, 1) := by decide +kernel
theorem dX10_distance_74 : decode cX10_distance 74 = .ok (.iload 8, 2) := by decide +kernel
theorem dX10_distance_76 : decode cX10_distance 76 = .ok (.iload 7, 2) := by decide +kernel
theorem dX10_distance_78 : decode cX10_distance 78 = .ok (.invokevirtual 80, 3) := by decide +kernel
theorem dX10_distance_81 : decode cX10_distance 81 = .ok (.iload 5, 2) := by decide +kernel
theorem dX10_distance_83 : decode cX10_distance 83 = .ok (.if_icmp .le 8, 3) := by decide +kernel
theorem dX10_distance_86 : decode cX10_distance 86 = .ok (.iload 5, 2) := by decide +kernel
theorem dX10_distance_88 : decode cX10_distance 88 = .ok (.iconst 1, 1) := by decide +kernel
theorem dX10_distance_89 : decode cX10_distance 89 = .ok (.iadd, 1) := by decide +kernel
theorem dX10_distance_90 : decode cX10_distance 90 = .ok (.ireturn, 1) := by decide +kernel
theorem dX10_distance_91 : decode cX10_distance 91 = .ok (.iinc 8 1, 3) := by decide +kernel
theorem dX10_distance_94 : decode cX10_distance 94 = .ok (.goto (-28), 3) := by decide +kernel
theorem dX10_distance_97 : decode cX10_distance 97 = .ok (.aload_n 0, 1) := by decide +kernel
theorem dX10_distance_98 : decode cX10_distance 98 = .ok (.getfield 18, 3) := by decide +kernel
theorem dX10_distance_101 : decode cX10_distance 101 = .ok (.iload 7, 2) := by decide +kernel
theorem dX10_distance_103 : decode cX10_distance 103 = .ok (.iaload, 1) := by decide +kernel
theorem dX10_distance_104 : decode cX10_distance 104 = .ok (.ireturn, 1) := by decide +kernel
theorem dX10_nextCosts_0 : decode cX10_nextCosts 0 = .ok (.aload_n 0, 1) := by decide +kernel
theorem dX10_nextCosts_1 : decode cX10_nextCosts 1 = .ok (.getfield 18, 3) := by decide +kernel
theorem dX10_nextCosts_4 : decode cX10_nextCosts 4 = .ok (.iconst 0, 1) := by decide +kernel
theorem dX10_nextCosts_5 : decode cX10_nextCosts 5 = .ok (.iaload, 1) := by decide +kernel
theorem dX10_nextCosts_6 : decode cX10_nextCosts 6 = .ok (.istore_n 3, 1) := by decide +kernel
theorem dX10_nextCosts_7 : decode cX10_nextCosts 7 = .ok (.aload_n 0, 1) := by decide +kernel
theorem dX10_nextCosts_8 : decode cX10_nextCosts 8 = .ok (.getfield 18, 3) := by decide +kernel
theorem dX10_nextCosts_11 : decode cX10_nextCosts 11 = .ok (.iconst 0, 1) := by decide +kernel
theorem dX10_nextCosts_12 : decode cX10_nextCosts 12 = .ok (.iload_n 1, 1) := by decide +kernel
theorem dX10_nextCosts_13 : decode cX10_nextCosts 13 = .ok (.iastore, 1) := by decide +kernel
theorem dX10_nextCosts_14 : decode cX10_nextCosts 14 = .ok (.iload_n 1, 1) := by decide +kernel
theorem dX10_nextCosts_15 : decode cX10_nextCosts 15 = .ok (.istore 4, 2) := by decide +kernel
theorem dX10_nextCosts_17 : decode cX10_nextCosts 17 = .ok (.iconst 1, 1) := by decide +kernel
theorem dX10_nextCosts_18 : decode cX10_nextCosts 18 = .ok (.istore 5, 2) := by decide +kernel
theorem dX10_nextCosts_20 : decode cX10_nextCosts 20 = .ok (.iload 5, 2) := by decide +kernel
theorem dX10_nextCosts_22 : decode cX10_nextCosts 22 = .ok (.iload_n 2, 1) := by decide +kernel
theorem dX10_nextCosts_23 : decode cX10_nextCosts 23 = .ok (.if_icmp .gt 93, 3) := by decide +kernel
theorem dX10_nextCosts_26 : decode cX10_nextCosts 26 = .ok (.iload_n 3, 1) := by decide +kernel
theorem dX10_nextCosts_27 : decode cX10_nextCosts 27 = .ok (.aload_n 0, 1) := by decide +kernel
theorem dX10_nextCosts_28 : decode cX10_nextCosts 28 = .ok (.getfield 9, 3) := by decide +kernel
theorem dX10_nextCosts_31 : decode cX10_nextCosts 31 = .ok (.iload_n 1, 1) := by decide +kernel
theorem dX10_nextCosts_32 : decode cX10_nextCosts 32 = .ok (.iconst 1, 1) := by decide +kernel
theorem dX10_nextCosts_33 : decode cX10_nextCosts 33 = .ok (.isub, 1) := by decide +kernel
theorem dX10_nextCosts_34 : decode cX10_nextCosts 34 = .ok (.baload, 1) := by decide +kernel
theorem dX10_nextCosts_35 : decode cX10_nextCosts 35 = .ok (.aload_n 0, 1) := by decide +kernel
theorem dX10_nextCosts_36 : decode cX10_nextCosts 36 = .ok (.getfield 15, 3) := by decide +kernel
theorem dX10_nextCosts_39 : decode cX10_nextCosts 39 = .ok (.iload 5, 2) := by decide +kernel
theorem dX10_nextCosts_41 : decode cX10_nextCosts 41 = .ok (.iconst 1, 1) := by decide +kernel
theorem dX10_nextCosts_42 : decode cX10_nextCosts 42 = .ok (.isub, 1) := by decide +kernel
theorem dX10_nextCosts_43 : decode cX10_nextCosts 43 = .ok (.baload, 1) := by decide +kernel
theorem dX10_nextCosts_44 : decode cX10_nextCosts 44 = .ok (.if_icmp .ne 7, 3) := by decide +kernel
theorem dX10_nextCosts_47 : decode cX10_nextCosts 47 = .ok (.iconst 0, 1) := by decide +kernel
theorem dX10_nextCosts_48 : decode cX10_nextCosts 48 = .ok (.goto 4, 3) := by decide +kernel
theorem dX10_nextCosts_51 : decode cX10_nextCosts 51 = .ok (.iconst 1, 1) := by decide +kernel
theorem dX10_nextCosts_52 : decode cX10_nextCosts 52 = .ok (.iadd, 1) := by decide +kernel
theorem dX10_nextCosts_53 : decode cX10_nextCosts 53 = .ok (.istore 6, 2) := by decide +kernel
theorem dX10_nextCosts_55 : decode cX10_nextCosts 55 = .ok (.aload_n 0, 1) := by decide +kernel
theorem dX10_nextCosts_56 : decode cX10_nextCosts 56 = .ok (.getfield 18, 3) := by decide +kernel
theorem dX10_nextCosts_59 : decode cX10_nextCosts 59 = .ok (.iload 5, 2) := by decide +kernel
theorem dX10_nextCosts_61 : decode cX10_nextCosts 61 = .ok (.iaload, 1) := by decide +kernel
theorem dX10_nextCosts_62 : decode cX10_nextCosts 62 = .ok (.istore_n 3, 1) := by decide +kernel
theorem dX10_nextCosts_63 : decode cX10_nextCosts 63 = .ok (.aload_n 0, 1) := by decide +kernel
theorem dX10_nextCosts_64 : decode cX10_nextCosts 64 = .ok (.getfield 18, 3) := by decide +kernel
theorem dX10_nextCosts_67 : decode cX10_nextCosts 67 = .ok (.iload 5, 2) := by decide +kernel
theorem dX10_nextCosts_69 : decode cX10_nextCosts 69 = .ok (.iload 6, 2) := by decide +kernel
theorem dX10_nextCosts_71 : decode cX10_nextCosts 71 = .ok (.aload_n 0, 1) := by decide +kernel
theorem dX10_nextCosts_72 : decode cX10_nextCosts 72 = .ok (.getfield 18, 3) := by decide +kernel
theorem dX10_nextCosts_75 : decode cX10_nextCosts 75 = .ok (.iload 5, 2) := by decide +kernel
theorem dX10_nextCosts_77 : decode cX10_nextCosts 77 = .ok (.iaload, 1) := by decide +kernel
theorem dX10_nextCosts_78 : decode cX10_nextCosts 78 = .ok (.aload_n 0, 1) := by decide +kernel
theorem dX10_nextCosts_79 : decode cX10_nextCosts 79 = .ok (.getfield 18, 3) := by decide +kernel
theorem dX10_nextCosts_82 : decode cX10_nextCosts 82 = .ok (.iload 5, 2) := by decide +kernel
theorem dX10_nextCosts_84 : decode cX10_nextCosts 84 = .ok (.iconst 1, 1) := by decide +kernel
theorem dX10_nextCosts_85 : decode cX10_nextCosts 85 = .ok (.isub, 1) := by decide +kernel
theorem dX10_nextCosts_86 : decode cX10_nextCosts 86 = .ok (.iaload, 1) := by decide +kernel
theorem dX10_nextCosts_87 : decode cX10_nextCosts 87 = .ok (.invokestatic 84, 3) := by decide +kernel
theorem dX10_nextCosts_90 : decode cX10_nextCosts 90 = .ok (.iconst 1, 1) := by decide +kernel
theorem dX10_nextCosts_91 : decode cX10_nextCosts 91 = .ok (.iadd, 1) := by decide +kernel
theorem dX10_nextCosts_92 : decode cX10_nextCosts 92 = .ok (.invokestatic 84, 3) := by decide +kernel
theorem dX10_nextCosts_95 : decode cX10_nextCosts 95 = .ok (.iastore, 1) := by decide +kernel
theorem dX10_nextCosts_96 : decode cX10_nextCosts 96 = .ok (.iload 4, 2) := by decide +kernel
theorem dX10_nextCosts_98 : decode cX10_nextCosts 98 = .ok (.aload_n 0, 1) := by decide +kernel
theorem dX10_nextCosts_99 : decode cX10_nextCosts 99 = .ok (.getfield 18, 3) := by decide +kernel
theorem dX10_nextCosts_102 : decode cX10_nextCosts 102 = .ok (.iload 5, 2) := by decide +kernel
theorem dX10_nextCosts_104 : decode cX10_nextCosts 104 = .ok (.iaload, 1) := by decide +kernel
theorem dX10_nextCosts_105 : decode cX10_nextCosts 105 = .ok (.invokestatic 84, 3) := by decide +kernel
theorem dX10_nextCosts_108 : decode cX10_nextCosts 108 = .ok (.istore 4, 2) := by decide +kernel
theorem dX10_nextCosts_110 : decode cX10_nextCosts 110 = .ok (.iinc 5 1, 3) := by decide +kernel
theorem dX10_nextCosts_113 : decode cX10_nextCosts 113 = .ok (.goto (-93), 3) := by decide +kernel
theorem dX10_nextCosts_116 : decode cX10_nextCosts 116 = .ok (.iload 4, 2) := by decide +kernel
theorem dX10_nextCosts_118 : decode cX10_nextCosts 118 = .ok (.ireturn, 1) := by decide +kernel
theorem dX10_spell_0 : decode cX10_spell 0 = .ok (.lload_n 0, 1) := by decide +kernel
theorem dX10_spell_1 : decode cX10_spell 1 = .ok (.lstore_n 3, 1) := by decide +kernel
theorem dX10_spell_2 : decode cX10_spell 2 = .ok (.iconst 0, 1) := by decide +kernel
theorem dX10_spell_3 : decode cX10_spell 3 = .ok (.istore 5, 2) := by decide +kernel
theorem dX10_spell_5 : decode cX10_spell 5 = .ok (.bipush 11, 2) := by decide +kernel
theorem dX10_spell_7 : decode cX10_spell 7 = .ok (.istore 6, 2) := by decide +kernel
theorem dX10_spell_9 : decode cX10_spell 9 = .ok (.iload 6, 2) := by decide +kernel
theorem dX10_spell_11 : decode cX10_spell 11 = .ok (.ifCond .lt 44, 3) := by decide +kernel
theorem dX10_spell_14 : decode cX10_spell 14 = .ok (.aload_n 2, 1) := by decide +kernel
theorem dX10_spell_15 : decode cX10_spell 15 = .ok (.iload 6, 2) := by decide +kernel
theorem dX10_spell_17 : decode cX10_spell 17 = .ok (.lload_n 3, 1) := by decide +kernel
theorem dX10_spell_18 : decode cX10_spell 18 = .ok (.ldc2_w 39, 3) := by decide +kernel
theorem dX10_spell_21 : decode cX10_spell 21 = .ok (.lrem, 1) := by decide +kernel
theorem dX10_spell_22 : decode cX10_spell 22 = .ok (.l2i, 1) := by decide +kernel
theorem dX10_spell_23 : decode cX10_spell 23 = .ok (.i2b, 1) := by decide +kernel
theorem dX10_spell_24 : decode cX10_spell 24 = .ok (.bastore, 1) := by decide +kernel
theorem dX10_spell_25 : decode cX10_spell 25 = .ok (.lload_n 3, 1) := by decide +kernel
theorem dX10_spell_26 : decode cX10_spell 26 = .ok (.ldc2_w 39, 3) := by decide +kernel
theorem dX10_spell_29 : decode cX10_spell 29 = .ok (.ldiv, 1) := by decide +kernel
theorem dX10_spell_30 : decode cX10_spell 30 = .ok (.lstore_n 3, 1) := by decide +kernel
theorem dX10_spell_31 : decode cX10_spell 31 = .ok (.iload 5, 2) := by decide +kernel
theorem dX10_spell_33 : decode cX10_spell 33 = .ok (.ifCond .ne 16, 3) := by decide +kernel
theorem dX10_spell_36 : decode cX10_spell 36 = .ok (.aload_n 2, 1) := by decide +kernel
theorem dX10_spell_37 : decode cX10_spell 37 = .ok (.iload 6, 2) := by decide +kernel
theorem dX10_spell_39 : decode cX10_spell 39 = .ok (.baload, 1) := by decide +kernel
theorem dX10_spell_40 : decode cX10_spell 40 = .ok (.ifCond .eq 9, 3) := by decide +kernel
theorem dX10_spell_43 : decode cX10_spell 43 = .ok (.iload 6, 2) := by decide +kernel
theorem dX10_spell_45 : decode cX10_spell 45 = .ok (.iconst 1, 1) := by decide +kernel
theorem dX10_spell_46 : decode cX10_spell 46 = .ok (.iadd, 1) := by decide +kernel
theorem dX10_spell_47 : decode cX10_spell 47 = .ok (.istore 5, 2) := by decide +kernel
theorem dX10_spell_49 : decode cX10_spell 49 = .ok (.iinc 6 (-1), 3) := by decide +kernel
theorem dX10_spell_52 : decode cX10_spell 52 = .ok (.goto (-43), 3) := by decide +kernel
theorem dX10_spell_55 : decode cX10_spell 55 = .ok (.iload 5, 2) := by decide +kernel
theorem dX10_spell_57 : decode cX10_spell 57 = .ok (.ireturn, 1) := by decide +kernel
theorem dX11_init_0 : decode cX11_init 0 = .ok (.aload_n 0, 1) := by decide +kernel
theorem dX11_init_1 : decode cX11_init 1 = .ok (.invokespecial 3, 3) := by decide +kernel
theorem dX11_init_4 : decode cX11_init 4 = .ok (.aload_n 0, 1) := by decide +kernel
theorem dX11_init_5 : decode cX11_init 5 = .ok (.new 9, 3) := by decide +kernel
theorem dX11_init_8 : decode cX11_init 8 = .ok (.dup, 1) := by decide +kernel
theorem dX11_init_9 : decode cX11_init 9 = .ok (.invokespecial 11, 3) := by decide +kernel
theorem dX11_init_12 : decode cX11_init 12 = .ok (.putfield 12, 3) := by decide +kernel
theorem dX11_init_15 : decode cX11_init 15 = .ok (.aload_n 0, 1) := by decide +kernel
theorem dX11_init_16 : decode cX11_init 16 = .ok (.new 16, 3) := by decide +kernel
theorem dX11_init_19 : decode cX11_init 19 = .ok (.dup, 1) := by decide +kernel
theorem dX11_init_20 : decode cX11_init 20 = .ok (.sipush 400, 3) := by decide +kernel
theorem dX11_init_23 : decode cX11_init 23 = .ok (.invokespecial 18, 3) := by decide +kernel
theorem dX11_init_26 : decode cX11_init 26 = .ok (.putfield 21, 3) := by decide +kernel
theorem dX11_init_29 : decode cX11_init 29 = .ok (.aload_n 0, 1) := by decide +kernel
theorem dX11_init_30 : decode cX11_init 30 = .ok (.new 16, 3) := by decide +kernel
theorem dX11_init_33 : decode cX11_init 33 = .ok (.dup, 1) := by decide +kernel
theorem dX11_init_34 : decode cX11_init 34 = .ok (.bipush 10, 2) := by decide +kernel
theorem dX11_init_36 : decode cX11_init 36 = .ok (.invokespecial 18, 3) := by decide +kernel
theorem dX11_init_39 : decode cX11_init 39 = .ok (.putfield 25, 3) := by decide +kernel
theorem dX11_init_42 : decode cX11_init 42 = .ok (.aload_n 0, 1) := by decide +kernel
theorem dX11_init_43 : decode cX11_init 43 = .ok (.new 28, 3) := by decide +kernel
theorem dX11_init_46 : decode cX11_init 46 = .ok (.dup, 1) := by decide +kernel
theorem dX11_init_47 : decode cX11_init 47 = .ok (.invokespecial 30, 3) := by decide +kernel
theorem dX11_init_50 : decode cX11_init 50 = .ok (.putfield 31, 3) := by decide +kernel
theorem dX11_init_53 : decode cX11_init 53 = .ok (.aload_n 0, 1) := by decide +kernel
theorem dX11_init_54 : decode cX11_init 54 = .ok (.new 35, 3) := by decide +kernel
theorem dX11_init_57 : decode cX11_init 57 = .ok (.dup, 1) := by decide +kernel
theorem dX11_init_58 : decode cX11_init 58 = .ok (.invokespecial 37, 3) := by decide +kernel
theorem dX11_init_61 : decode cX11_init 61 = .ok (.putfield 38, 3) := by decide +kernel
theorem dX11_init_64 : decode cX11_init 64 = .ok (.aload_n 0, 1) := by decide +kernel
theorem dX11_init_65 : decode cX11_init 65 = .ok (.new 42, 3) := by decide +kernel
theorem dX11_init_68 : decode cX11_init 68 = .ok (.dup, 1) := by decide +kernel
theorem dX11_init_69 : decode cX11_init 69 = .ok (.aload_n 0, 1) := by decide +kernel
theorem dX11_init_70 : decode cX11_init 70 = .ok (.getfield 38, 3) := by decide +kernel
theorem dX11_init_73 : decode cX11_init 73 = .ok (.invokespecial 44, 3) := by decide +kernel
theorem dX11_init_76 : decode cX11_init 76 = .ok (.putfield 47, 3) := by decide +kernel
theorem dX11_init_79 : decode cX11_init 79 = .ok (.aload_n 0, 1) := by decide +kernel
theorem dX11_init_80 : decode cX11_init 80 = .ok (.new 51, 3) := by decide +kernel
theorem dX11_init_83 : decode cX11_init 83 = .ok (.dup, 1) := by decide +kernel
theorem dX11_init_84 : decode cX11_init 84 = .ok (.aload_n 0, 1) := by decide +kernel
theorem dX11_init_85 : decode cX11_init 85 = .ok (.getfield 12, 3) := by decide +kernel
theorem dX11_init_88 : decode cX11_init 88 = .ok (.aload_n 0, 1) := by decide +kernel
theorem dX11_init_89 : decode cX11_init 89 = .ok (.getfield 21, 3) := by decide +kernel
theorem dX11_init_92 : decode cX11_init 92 = .ok (.aload_n 0, 1) := by decide +kernel
theorem dX11_init_93 : decode cX11_init 93 = .ok (.getfield 25, 3) := by decide +kernel
theorem dX11_init_96 : decode cX11_init 96 = .ok (.invokespecial 53, 3) := by decide +kernel
theorem dX11_init_99 : decode cX11_init 99 = .ok (.putfield 56, 3) := by decide +kernel
theorem dX11_init_102 : decode cX11_init 102 = .ok (.aload_n 0, 1) := by decide +kernel
theorem dX11_init_103 : decode cX11_init 103 = .ok (.new 60, 3) := by decide +kernel
theorem dX11_init_106 : decode cX11_init 106 = .ok (.dup, 1) := by decide +kernel
theorem dX11_init_107 : decode cX11_init 107 = .ok (.invokespecial 62, 3) := by decide +kernel
theorem dX11_init_110 : decode cX11_init 110 = .ok (.putfield 63, 3) := by decide +kernel
theorem dX11_init_113 : decode cX11_init 113 = .ok (.aload_n 0, 1) := by decide +kernel
theorem dX11_init_114 : decode cX11_init 114 = .ok (.new 67, 3) := by decide +kernel
theorem dX11_init_117 : decode cX11_init 117 = .ok (.dup, 1) := by decide +kernel
theorem dX11_init_118 : decode cX11_init 118 = .ok (.aload_n 0, 1) := by decide +kernel
theorem dX11_init_119 : decode cX11_init 119 = .ok (.getfield 12, 3) := by decide +kernel
theorem dX11_init_122 : decode cX11_init 122 = .ok (.aload_n 0, 1) := by decide +kernel
theorem dX11_init_123 : decode cX11_init 123 = .ok (.getfield 21, 3) := by decide +kernel
theorem dX11_init_126 : decode cX11_init 126 = .ok (.aload_n 0, 1) := by decide +kernel
theorem dX11_init_127 : decode cX11_init 127 = .ok (.getfield 25, 3) := by decide +kernel
theorem dX11_init_130 : decode cX11_init 130 = .ok (.aload_n 0, 1) := by decide +kernel
theorem dX11_init_131 : decode cX11_init 131 = .ok (.getfield 63, 3) := by decide +kernel
theorem dX11_init_134 : decode cX11_init 134 = .ok (.invokespecial 69, 3) := by decide +kernel
theorem dX11_init_137 : decode cX11_init 137 = .ok (.putfield 72, 3) := by decide +kernel
theorem dX11_init_140 : decode cX11_init 140 = .ok (.aload_n 0, 1) := by decide +kernel
theorem dX11_init_141 : decode cX11_init 141 = .ok (.new 76, 3) := by decide +kernel
theorem dX11_init_144 : decode cX11_init 144 = .ok (.dup, 1) := by decide +kernel
theorem dX11_init_145 : decode cX11_init 145 = .ok (.aload_n 0, 1) := by decide +kernel
theorem dX11_init_146 : decode cX11_init 146 = .ok (.getfield 31, 3) := by decide +kernel
theorem dX11_init_149 : decode cX11_init 149 = .ok (.aload_n 0, 1) := by decide +kernel
theorem dX11_init_150 : decode cX11_init 150 = .ok (.getfield 21, 3) := by decide +kernel
theorem dX11_init_153 : decode cX11_init 153 = .ok (.aload_n 0, 1) := by decide +kernel
theorem dX11_init_154 : decode cX11_init 154 = .ok (.getfield 38, 3) := by decide +kernel
theorem dX11_init_157 : decode cX11_init 157 = .ok (.aload_n 0, 1) := by decide +kernel
theorem dX11_init_158 : decode cX11_init 158 = .ok (.getfield 63, 3) := by decide +kernel
theorem dX11_init_161 : decode cX11_init 161 = .ok (.invokespecial 78, 3) := by decide +kernel
theorem dX11_init_164 : decode cX11_init 164 = .ok (.putfield 81, 3) := by decide +kernel
theorem dX11_init_167 : decode cX11_init 167 = .ok (.aload_n 0, 1) := by decide +kernel
theorem dX11_init_168 : decode cX11_init 168 = .ok (.aconst_null, 1) := by decide +kernel
theorem dX11_init_169 : decode cX11_init 169 = .ok (.putfield 85, 3) := by decide +kernel
theorem dX11_init_172 : decode cX11_init 172 = .ok (.aload_n 0, 1) := by decide +kernel
theorem dX11_init_173 : decode cX11_init 173 = .ok (.ldc2_w 88, 3) := by decide +kernel
theorem dX11_init_176 : decode cX11_init 176 = .ok (.putfield 90, 3) := by decide +kernel
theorem dX11_init_179 : decode cX11_init 179 = .ok (.return_, 1) := by decide +kernel
theorem dX11_feed_0 : decode cX11_feed 0 = .ok (.aload_n 0, 1) := by decide +kernel
theorem dX11_feed_1 : decode cX11_feed 1 = .ok (.getfield 12, 3) := by decide +kernel
theorem dX11_feed_4 : decode cX11_feed 4 = .ok (.bipush 20, 2) := by decide +kernel
theorem dX11_feed_6 : decode cX11_feed 6 = .ok (.invokevirtual 94, 3) := by decide +kernel
theorem dX11_feed_9 : decode cX11_feed 9 = .ok (.ifCond .ne 6, 3) := by decide +kernel
theorem dX11_feed_12 : decode cX11_feed 12 = .ok (.bipush (-2), 2) := by decide +kernel
theorem dX11_feed_14 : decode cX11_feed 14 = .ok (.ireturn, 1) := by decide +kernel
theorem dX11_feed_15 : decode cX11_feed 15 = .ok (.aload_n 0, 1) := by decide +kernel
theorem dX11_feed_16 : decode cX11_feed 16 = .ok (.getfield 12, 3) := by decide +kernel
theorem dX11_feed_19 : decode cX11_feed 19 = .ok (.iload_n 1, 1) := by decide +kernel
theorem dX11_feed_20 : decode cX11_feed 20 = .ok (.invokevirtual 98, 3) := by decide +kernel
theorem dX11_feed_23 : decode cX11_feed 23 = .ok (.aload_n 0, 1) := by decide +kernel
theorem dX11_feed_24 : decode cX11_feed 24 = .ok (.getfield 12, 3) := by decide +kernel
theorem dX11_feed_27 : decode cX11_feed 27 = .ok (.iload_n 2, 1) := by decide +kernel
theorem dX11_feed_28 : decode cX11_feed 28 = .ok (.invokevirtual 98, 3) := by decide +kernel
theorem dX11_feed_31 : decode cX11_feed 31 = .ok (.aload_n 0, 1) := by decide +kernel
theorem dX11_feed_32 : decode cX11_feed 32 = .ok (.getfield 12, 3) := by decide +kernel
theorem dX11_feed_35 : decode cX11_feed 35 = .ok (.iload_n 3, 1) := by decide +kernel
theorem dX11_feed_36 : decode cX11_feed 36 = .ok (.invokevirtual 98, 3) := by decide +kernel
theorem dX11_feed_39 : decode cX11_feed 39 = .ok (.aload_n 0, 1) := by decide +kernel
theorem dX11_feed_40 : decode cX11_feed 40 = .ok (.getfield 12, 3) := by decide +kernel
theorem dX11_feed_43 : decode cX11_feed 43 = .ok (.iload 4, 2) := by decide +kernel
theorem dX11_feed_45 : decode cX11_feed 45 = .ok (.invokevirtual 98, 3) := by decide +kernel
theorem dX11_feed_48 : decode cX11_feed 48 = .ok (.aload_n 0, 1) := by decide +kernel
theorem dX11_feed_49 : decode cX11_feed 49 = .ok (.getfield 12, 3) := by decide +kernel
theorem dX11_feed_52 : decode cX11_feed 52 = .ok (.iload 5, 2) := by decide +kernel
theorem dX11_feed_54 : decode cX11_feed 54 = .ok (.invokevirtual 98, 3) := by decide +kernel
theorem dX11_feed_57 : decode cX11_feed 57 = .ok (.aload_n 0, 1) := by decide +kernel
theorem dX11_feed_58 : decode cX11_feed 58 = .ok (.getfield 12, 3) := by decide +kernel
theorem dX11_feed_61 : decode cX11_feed 61 = .ok (.invokevirtual 101, 3) := by decide +kernel
theorem dX11_feed_64 : decode cX11_feed 64 = .ok (.ireturn, 1) := by decide +kernel
theorem dX11_end_0 : decode cX11_end 0 = .ok (.aload_n 0, 1) := by decide +kernel
theorem dX11_end_1 : decode cX11_end 1 = .ok (.getfield 12, 3) := by decide +kernel
theorem dX11_end_4 : decode cX11_end 4 = .ok (.iload_n 1, 1) := by decide +kernel
theorem dX11_end_5 : decode cX11_end 5 = .ok (.invokevirtual 105, 3) := by decide +kernel
theorem dX11_end_8 : decode cX11_end 8 = .ok (.ifCond .eq 7, 3) := by decide +kernel
theorem dX11_end_11 : decode cX11_end 11 = .ok (.iload_n 1, 1) := by decide +kernel
theorem dX11_end_12 : decode cX11_end 12 = .ok (.goto 4, 3) := by decide +kernel
theorem dX11_end_15 : decode cX11_end 15 = .ok (.iconst (-1), 1) := by decide +kernel
theorem dX11_end_16 : decode cX11_end 16 = .ok (.ireturn, 1) := by decide +kernel
theorem dX11_enter_0 : decode cX11_enter 0 = .ok (.aload_n 0, 1) := by decide +kernel
theorem dX11_enter_1 : decode cX11_enter 1 = .ok (.getfield 31, 3) := by decide +kernel
theorem dX11_enter_4 : decode cX11_enter 4 = .ok (.invokevirtual 108, 3) := by decide +kernel
theorem dX11_enter_7 : decode cX11_enter 7 = .ok (.istore_n 1, 1) := by decide +kernel
theorem dX11_enter_8 : decode cX11_enter 8 = .ok (.aload_n 0, 1) := by decide +kernel
theorem dX11_enter_9 : decode cX11_enter 9 = .ok (.getfield 21, 3) := by decide +kernel
theorem dX11_enter_12 : decode cX11_enter 12 = .ok (.invokevirtual 109, 3) := by decide +kernel
theorem dX11_enter_15 : decode cX11_enter 15 = .ok (.istore_n 2, 1) := by decide +kernel
theorem dX11_enter_16 : decode cX11_enter 16 = .ok (.iload_n 1, 1) := by decide +kernel
theorem dX11_enter_17 : decode cX11_enter 17 = .ok (.bipush 120, 2) := by decide +kernel
theorem dX11_enter_19 : decode cX11_enter 19 = .ok (.if_icmp .ge 32, 3) := by decide +kernel
theorem dX11_enter_22 : decode cX11_enter 22 = .ok (.aload_n 0, 1) := by decide +kernel
theorem dX11_enter_23 : decode cX11_enter 23 = .ok (.getfield 56, 3) := by decide +kernel
theorem dX11_enter_26 : decode cX11_enter 26 = .ok (.invokevirtual 110, 3) := by decide +kernel
theorem dX11_enter_29 : decode cX11_enter 29 = .ok (.ifCond .eq 22, 3) := by decide +kernel
theorem dX11_enter_32 : decode cX11_enter 32 = .ok (.aload_n 0, 1) := by decide +kernel
theorem dX11_enter_33 : decode cX11_enter 33 = .ok (.getfield 56, 3) := by decide +kernel
theorem dX11_enter_36 : decode cX11_enter 36 = .ok (.aload_n 0, 1) := by decide +kernel
theorem dX11_enter_37 : decode cX11_enter 37 = .ok (.getfield 38, 3) := by decide +kernel
theorem dX11_enter_40 : decode cX11_enter 40 = .ok (.iload_n 1, 1) := by decide +kernel
theorem dX11_enter_41 : decode cX11_enter 41 = .ok (.invokevirtual 114, 3) := by decide +kernel
theorem dX11_enter_44 : decode cX11_enter 44 = .ok (.ifCond .eq 7, 3) := by decide +kernel
theorem dX11_enter_47 : decode cX11_enter 47 = .ok (.iconst 1, 1) := by decide +kernel
theorem dX11_enter_48 : decode cX11_enter 48 = .ok (.goto 4, 3) := by decide +kernel
theorem dX11_enter_51 : decode cX11_enter 51 = .ok (.iconst 0, 1) := by decide +kernel
theorem dX11_enter_52 : decode cX11_enter 52 = .ok (.istore_n 3, 1) := by decide +kernel
theorem dX11_enter_53 : decode cX11_enter 53 = .ok (.aload_n 0, 1) := by decide +kernel
theorem dX11_enter_54 : decode cX11_enter 54 = .ok (.getfield 12, 3) := by decide +kernel
theorem dX11_enter_57 : decode cX11_enter 57 = .ok (.invokevirtual 118, 3) := by decide +kernel
theorem dX11_enter_60 : decode cX11_enter 60 = .ok (.iload_n 3, 1) := by decide +kernel
theorem dX11_enter_61 : decode cX11_enter 61 = .ok (.ifCond .ne 14, 3) := by decide +kernel
theorem dX11_enter_64 : decode cX11_enter 64 = .ok (.aload_n 0, 1) := by decide +kernel
theorem dX11_enter_65 : decode cX11_enter 65 = .ok (.getfield 21, 3) := by decide +kernel
theorem dX11_enter_68 : decode cX11_enter 68 = .ok (.iload_n 2, 1) := by decide +kernel
theorem dX11_enter_69 : decode cX11_enter 69 = .ok (.invokevirtual 121, 3) := by decide +kernel
theorem dX11_enter_72 : decode cX11_enter 72 = .ok (.bipush (-2), 2) := by decide +kernel
theorem dX11_enter_74 : decode cX11_enter 74 = .ok (.ireturn, 1) := by decide +kernel
theorem dX11_enter_75 : decode cX11_enter 75 = .ok (.aload_n 0, 1) := by decide +kernel
theorem dX11_enter_76 : decode cX11_enter 76 = .ok (.getfield 56, 3) := by decide +kernel
theorem dX11_enter_79 : decode cX11_enter 79 = .ok (.aload_n 0, 1) := by decide +kernel
theorem dX11_enter_80 : decode cX11_enter 80 = .ok (.getfield 38, 3) := by decide +kernel
theorem dX11_enter_83 : decode cX11_enter 83 = .ok (.iload_n 1, 1) := by decide +kernel
theorem dX11_enter_84 : decode cX11_enter 84 = .ok (.invokevirtual 124, 3) := by decide +kernel
theorem dX11_enter_87 : decode cX11_enter 87 = .ok (.aload_n 0, 1) := by decide +kernel
theorem dX11_enter_88 : decode cX11_enter 88 = .ok (.getfield 31, 3) := by decide +kernel
theorem dX11_enter_91 : decode cX11_enter 91 = .ok (.aload_n 0, 1) := by decide +kernel
theorem dX11_enter_92 : decode cX11_enter 92 = .ok (.getfield 56, 3) := by decide +kernel
theorem dX11_enter_95 : decode cX11_enter 95 = .ok (.invokevirtual 128, 3) := by decide +kernel
theorem dX11_enter_98 : decode cX11_enter 98 = .ok (.aload_n 0, 1) := by decide +kernel
theorem dX11_enter_99 : decode cX11_enter 99 = .ok (.getfield 56, 3) := by decide +kernel
theorem dX11_enter_102 : decode cX11_enter 102 = .ok (.invokevirtual 131, 3) := by decide +kernel
theorem dX11_enter_105 : decode cX11_enter 105 = .ok (.invokevirtual 134, 3) := by decide +kernel
theorem dX11_enter_108 : decode cX11_enter 108 = .ok (.iload_n 1, 1) := by decide +kernel
theorem dX11_enter_109 : decode cX11_enter 109 = .ok (.ireturn, 1) := by decide +kernel
theorem dX11_remove_0 : decode cX11_remove 0 = .ok (.aload_n 0, 1) := by decide +kernel
theorem dX11_remove_1 : decode cX11_remove 1 = .ok (.getfield 31, 3) := by decide +kernel
theorem dX11_remove_4 : decode cX11_remove 4 = .ok (.iload_n 1, 1) := by decide +kernel
theorem dX11_remove_5 : decode cX11_remove 5 = .ok (.invokevirtual 138, 3) := by decide +kernel
theorem dX11_remove_8 : decode cX11_remove 8 = .ok (.ireturn, 1) := by decide +kernel
theorem dX11_mark_0 : decode cX11_mark 0 = .ok (.aload_n 0, 1) := by decide +kernel
theorem dX11_mark_1 : decode cX11_mark 1 = .ok (.getfield 31, 3) := by decide +kernel
theorem dX11_mark_4 : decode cX11_mark 4 = .ok (.iload_n 1, 1) := by decide +kernel
theorem dX11_mark_5 : decode cX11_mark 5 = .ok (.iload_n 2, 1) := by decide +kernel
theorem dX11_mark_6 : decode cX11_mark 6 = .ok (.invokevirtual 141, 3) := by decide +kernel
theorem dX11_mark_9 : decode cX11_mark 9 = .ok (.ireturn, 1) := by decide +kernel
theorem dX11_tidy_0 : decode cX11_tidy 0 = .ok (.aload_n 0, 1) := by decide +kernel
theorem dX11_tidy_1 : decode cX11_tidy 1 = .ok (.getfield 85, 3) := by decide +kernel
theorem dX11_tidy_4 : decode cX11_tidy 4 = .ok (.ifnonnull 14, 3) := by decide +kernel
theorem dX11_tidy_7 : decode cX11_tidy 7 = .ok (.aload_n 0, 1) := by decide +kernel
theorem dX11_tidy_8 : decode cX11_tidy 8 = .ok (.new 35, 3) := by decide +kernel
theorem dX11_tidy_11 : decode cX11_tidy 11 = .ok (.dup, 1) := by decide +kernel
theorem dX11_tidy_12 : decode cX11_tidy 12 = .ok (.invokespecial 37, 3) := by decide +kernel
theorem dX11_tidy_15 : decode cX11_tidy 15 = .ok (.putfield 85, 3) := by decide +kernel
theorem dX11_tidy_18 : decode cX11_tidy 18 = .ok (.aload_n 0, 1) := by decide +kernel
theorem dX11_tidy_19 : decode cX11_tidy 19 = .ok (.getfield 38, 3) := by decide +kernel
theorem dX11_tidy_22 : decode cX11_tidy 22 = .ok (.invokevirtual 145, 3) := by decide +kernel
theorem dX11_tidy_25 : decode cX11_tidy 25 = .ok (.istore_n 1, 1) := by decide +kernel
theorem dX11_tidy_26 : decode cX11_tidy 26 = .ok (.aload_n 0, 1) := by decide +kernel
theorem dX11_tidy_27 : decode cX11_tidy 27 = .ok (.getfield 85, 3) := by decide +kernel
theorem dX11_tidy_30 : decode cX11_tidy 30 = .ok (.invokevirtual 148, 3) := by decide +kernel
theorem dX11_tidy_33 : decode cX11_tidy 33 = .ok (.iconst 0, 1) := by decide +kernel
theorem dX11_tidy_34 : decode cX11_tidy 34 = .ok (.istore_n 2, 1) := by decide +kernel
theorem dX11_tidy_35 : decode cX11_tidy 35 = .ok (.iconst 0, 1) := by decide +kernel
theorem dX11_tidy_36 : decode cX11_tidy 36 = .ok (.istore_n 3, 1) := by decide +kernel
theorem dX11_tidy_37 : decode cX11_tidy 37 = .ok (.iload_n 3, 1) := by decide +kernel
theorem dX11_tidy_38 : decode cX11_tidy 38 = .ok (.aload_n 0, 1) := by decide +kernel
theorem dX11_tidy_39 : decode cX11_tidy 39 = .ok (.getfield 21, 3) := by decide +kernel
theorem dX11_tidy_42 : decode cX11_tidy 42 = .ok (.invokevirtual 109, 3) := by decide +kernel
theorem dX11_tidy_45 : decode cX11_tidy 45 = .ok (.if_icmp .ge 50, 3) := by decide +kernel
theorem dX11_tidy_48 : decode cX11_tidy 48 = .ok (.aload_n 0, 1) := by decide +kernel
theorem dX11_tidy_49 : decode cX11_tidy 49 = .ok (.getfield 47, 3) := by decide +kernel
theorem dX11_tidy_52 : decode cX11_tidy 52 = .ok (.iload_n 3, 1) := by decide +kernel
theorem dX11_tidy_53 : decode cX11_tidy 53 = .ok (.invokevirtual 149, 3) := by decide +kernel
theorem dX11_tidy_56 : decode cX11_tidy 56 = .ok (.aload_n 0, 1) := by decide +kernel
theorem dX11_tidy_57 : decode cX11_tidy 57 = .ok (.getfield 85, 3) := by decide +kernel
theorem dX11_tidy_60 : decode cX11_tidy 60 = .ok (.iload_n 2, 1) := by decide +kernel
theorem dX11_tidy_61 : decode cX11_tidy 61 = .ok (.aload_n 0, 1) := by decide +kernel
theorem dX11_tidy_62 : decode cX11_tidy 62 = .ok (.getfield 47, 3) := by decide +kernel
theorem dX11_tidy_65 : decode cX11_tidy 65 = .ok (.aload_n 0, 1) := by decide +kernel
theorem dX11_tidy_66 : decode cX11_tidy 66 = .ok (.getfield 31, 3) := by decide +kernel
theorem dX11_tidy_69 : decode cX11_tidy 69 = .ok (.invokevirtual 152, 3) := by decide +kernel
theorem dX11_tidy_72 : decode cX11_tidy 72 = .ok (.ifCond .eq 9, 3) := by decide +kernel
theorem dX11_tidy_75 : decode cX11_tidy 75 = .ok (.iinc 2 1, 3) := by decide +kernel
theorem dX11_tidy_78 : decode cX11_tidy 78 = .ok (.goto 11, 3) := by decide +kernel
theorem dX11_tidy_81 : decode cX11_tidy 81 = .ok (.aload_n 0, 1) := by decide +kernel
theorem dX11_tidy_82 : decode cX11_tidy 82 = .ok (.getfield 21, 3) := by decide +kernel
theorem dX11_tidy_85 : decode cX11_tidy 85 = .ok (.iload_n 3, 1) := by decide +kernel
theorem dX11_tidy_86 : decode cX11_tidy 86 = .ok (.invokevirtual 156, 3) := by decide +kernel
theorem dX11_tidy_89 : decode cX11_tidy 89 = .ok (.iinc 3 1, 3) := by decide +kernel
theorem dX11_tidy_92 : decode cX11_tidy 92 = .ok (.goto (-55), 3) := by decide +kernel
theorem dX11_tidy_95 : decode cX11_tidy 95 = .ok (.aload_n 0, 1) := by decide +kernel
theorem dX11_tidy_96 : decode cX11_tidy 96 = .ok (.getfield 21, 3) := by decide +kernel
theorem dX11_tidy_99 : decode cX11_tidy 99 = .ok (.invokevirtual 159, 3) := by decide +kernel
theorem dX11_tidy_102 : decode cX11_tidy 102 = .ok (.aload_n 0, 1) := by decide +kernel
theorem dX11_tidy_103 : decode cX11_tidy 103 = .ok (.getfield 38, 3) := by decide +kernel
theorem dX11_tidy_106 : decode cX11_tidy 106 = .ok (.aload_n 0, 1) := by decide +kernel
theorem dX11_tidy_107 : decode cX11_tidy 107 = .ok (.getfield 85, 3) := by decide +kernel
theorem dX11_tidy_110 : decode cX11_tidy 110 = .ok (.invokevirtual 162, 3) := by decide +kernel
theorem dX11_tidy_113 : decode cX11_tidy 113 = .ok (.iload_n 1, 1) := by decide +kernel
theorem dX11_tidy_114 : decode cX11_tidy 114 = .ok (.aload_n 0, 1) := by decide +kernel
theorem dX11_tidy_115 : decode cX11_tidy 115 = .ok (.getfield 38, 3) := by decide +kernel
theorem dX11_tidy_118 : decode cX11_tidy 118 = .ok (.invokevirtual 145, 3) := by decide +kernel
theorem dX11_tidy_121 : decode cX11_tidy 121 = .ok (.isub, 1) := by decide +kernel
theorem dX11_tidy_122 : decode cX11_tidy 122 = .ok (.ireturn, 1) := by decide +kernel
theorem dX11_stop_0 : decode cX11_stop 0 = .ok (.aload_n 0, 1) := by decide +kernel
theorem dX11_stop_1 : decode cX11_stop 1 = .ok (.getfield 12, 3) := by decide +kernel
theorem dX11_stop_4 : decode cX11_stop 4 = .ok (.invokevirtual 165, 3) := by decide +kernel
theorem dX11_stop_7 : decode cX11_stop 7 = .ok (.lstore_n 2, 1) := by decide +kernel
theorem dX11_stop_8 : decode cX11_stop 8 = .ok (.aload_n 0, 1) := by decide +kernel
theorem dX11_stop_9 : decode cX11_stop 9 = .ok (.getfield 12, 3) := by decide +kernel
theorem dX11_stop_12 : decode cX11_stop 12 = .ok (.invokevirtual 118, 3) := by decide +kernel
theorem dX11_stop_15 : decode cX11_stop 15 = .ok (.lload_n 2, 1) := by decide +kernel
theorem dX11_stop_16 : decode cX11_stop 16 = .ok (.lconst 0, 1) := by decide +kernel
theorem dX11_stop_17 : decode cX11_stop 17 = .ok (.lcmp, 1) := by decide +kernel
theorem dX11_stop_18 : decode cX11_stop 18 = .ok (.ifCond .ne 5, 3) := by decide +kernel
theorem dX11_stop_21 : decode cX11_stop 21 = .ok (.iconst (-1), 1) := by decide +kernel
theorem dX11_stop_22 : decode cX11_stop 22 = .ok (.ireturn, 1) := by decide +kernel
theorem dX11_stop_23 : decode cX11_stop 23 = .ok (.aload_n 0, 1) := by decide +kernel
theorem dX11_stop_24 : decode cX11_stop 24 = .ok (.getfield 25, 3) := by decide +kernel
theorem dX11_stop_27 : decode cX11_stop 27 = .ok (.lload_n 2, 1) := by decide +kernel
theorem dX11_stop_28 : decode cX11_stop 28 = .ok (.invokevirtual 169, 3) := by decide +kernel
theorem dX11_stop_31 : decode cX11_stop 31 = .ok (.istore 4, 2) := by decide +kernel
theorem dX11_stop_33 : decode cX11_stop 33 = .ok (.iload_n 1, 1) := by decide +kernel
theorem dX11_stop_34 : decode cX11_stop 34 = .ok (.ifCond .eq 24, 3) := by decide +kernel
theorem dX11_stop_37 : decode cX11_stop 37 = .ok (.iload 4, 2) := by decide +kernel
theorem dX11_stop_39 : decode cX11_stop 39 = .ok (.iconst (-1), 1) := by decide +kernel
theorem dX11_stop_40 : decode cX11_stop 40 = .ok (.if_icmp .ne 18, 3) := by decide +kernel
theorem dX11_stop_43 : decode cX11_stop 43 = .ok (.aload_n 0, 1) := by decide +kernel
theorem dX11_stop_44 : decode cX11_stop 44 = .ok (.getfield 25, 3) := by decide +kernel
theorem dX11_stop_47 : decode cX11_stop 47 = .ok (.lload_n 2, 1) := by decide +kernel
theorem dX11_stop_48 : decode cX11_stop 48 = .ok (.invokevirtual 173, 3) := by decide +kernel
theorem dX11_stop_51 : decode cX11_stop 51 = .ok (.iconst (-1), 1) := by decide +kernel
theorem dX11_stop_52 : decode cX11_stop 52 = .ok (.if_icmp .ne 6, 3) := by decide +kernel
theorem dX11_stop_55 : decode cX11_stop 55 = .ok (.bipush (-2), 2) := by decide +kernel
theorem dX11_stop_57 : decode cX11_stop 57 = .ok (.ireturn, 1) := by decide +kernel
theorem dX11_stop_58 : decode cX11_stop 58 = .ok (.iload_n 1, 1) := by decide +kernel
theorem dX11_stop_59 : decode cX11_stop 59 = .ok (.ifCond .ne 32, 3) := by decide +kernel
theorem dX11_stop_62 : decode cX11_stop 62 = .ok (.iload 4, 2) := by decide +kernel
theorem dX11_stop_64 : decode cX11_stop 64 = .ok (.iconst (-1), 1) := by decide +kernel
theorem dX11_stop_65 : decode cX11_stop 65 = .ok (.if_icmp .eq 26, 3) := by decide +kernel
theorem dX11_stop_68 : decode cX11_stop 68 = .ok (.aload_n 0, 1) := by decide +kernel
theorem dX11_stop_69 : decode cX11_stop 69 = .ok (.getfield 25, 3) := by decide +kernel
theorem dX11_stop_72 : decode cX11_stop 72 = .ok (.aload_n 0, 1) := by decide +kernel
theorem dX11_stop_73 : decode cX11_stop 73 = .ok (.getfield 25, 3) := by decide +kernel
theorem dX11_stop_76 : decode cX11_stop 76 = .ok (.iload 4, 2) := by decide +kernel
theorem dX11_stop_78 : decode cX11_stop 78 = .ok (.invokevirtual 175, 3) := by decide +kernel
theorem dX11_stop_81 : decode cX11_stop 81 = .ok (.invokevirtual 156, 3) := by decide +kernel
theorem dX11_stop_84 : decode cX11_stop 84 = .ok (.aload_n 0, 1) := by decide +kernel
theorem dX11_stop_85 : decode cX11_stop 85 = .ok (.getfield 25, 3) := by decide +kernel
theorem dX11_stop_88 : decode cX11_stop 88 = .ok (.invokevirtual 159, 3) := by decide +kernel
theorem dX11_stop_91 : decode cX11_stop 91 = .ok (.aload_n 0, 1) := by decide +kernel
theorem dX11_stop_92 : decode cX11_stop 92 = .ok (.getfield 25, 3) := by decide +kernel
theorem dX11_stop_95 : decode cX11_stop 95 = .ok (.invokevirtual 109, 3) := by decide +kernel
theorem dX11_stop_98 : decode cX11_stop 98 = .ok (.ireturn, 1) := by decide +kernel
theorem dX11_document_0 : decode cX11_document 0 = .ok (.aload_n 0, 1) := by decide +kernel
theorem dX11_document_1 : decode cX11_document 1 = .ok (.getfield 31, 3) := by decide +kernel
theorem dX11_document_4 : decode cX11_document 4 = .ok (.iload_n 1, 1) := by decide +kernel
theorem dX11_document_5 : decode cX11_document 5 = .ok (.invokevirtual 179, 3) := by decide +kernel
theorem dX11_document_8 : decode cX11_document 8 = .ok (.ifCond .ne 13, 3) := by decide +kernel
theorem dX11_document_11 : decode cX11_document 11 = .ok (.new 182, 3) := by decide +kernel
theorem dX11_document_14 : decode cX11_document 14 = .ok (.dup, 1) := by decide +kernel
theorem dX11_document_15 : decode cX11_document 15 = .ok (.ldc 184, 2) := by decide +kernel
theorem dX11_document_17 : decode cX11_document 17 = .ok (.invokespecial 186, 3) := by decide +kernel
theorem dX11_document_20 : decode cX11_document 20 = .ok (.athrow, 1) := by decide +kernel
theorem dX11_document_21 : decode cX11_document 21 = .ok (.iload_n 2, 1) := by decide +kernel
theorem dX11_document_22 : decode cX11_document 22 = .ok (.tableswitch 74 0 3 #[30, 47, 56, 65], 30) := by decide +kernel
theorem dX11_document_52 : decode cX11_document 52 = .ok (.aload_n 0, 1) := by decide +kernel
theorem dX11_document_53 : decode cX11_document 53 = .ok (.getfield 31, 3) := by decide +kernel
theorem dX11_document_56 : decode cX11_document 56 = .ok (.iload_n 1, 1) := by decide +kernel
theorem dX11_document_57 : decode cX11_document 57 = .ok (.invokevirtual 189, 3) := by decide +kernel
theorem dX11_document_60 : decode cX11_document 60 = .ok (.ifCond .eq 7, 3) := by decide +kernel
theorem dX11_document_63 : decode cX11_document 63 = .ok (.iconst 1, 1) := by decide +kernel
theorem dX11_document_64 : decode cX11_document 64 = .ok (.goto 4, 3) := by decide +kernel
theorem dX11_document_67 : decode cX11_document 67 = .ok (.iconst 0, 1) := by decide +kernel
theorem dX11_document_68 : decode cX11_document 68 = .ok (.ireturn, 1) := by decide +kernel
theorem dX11_document_69 : decode cX11_document 69 = .ok (.aload_n 0, 1) := by decide +kernel
theorem dX11_document_70 : decode cX11_document 70 = .ok (.getfield 31, 3) := by decide +kernel
theorem dX11_document_73 : decode cX11_document 73 = .ok (.iload_n 1, 1) := by decide +kernel
theorem dX11_document_74 : decode cX11_document 74 = .ok (.invokevirtual 192, 3) := by decide +kernel
theorem dX11_document_77 : decode cX11_document 77 = .ok (.ireturn, 1) := by decide +kernel
theorem dX11_document_78 : decode cX11_document 78 = .ok (.aload_n 0, 1) := by decide +kernel
theorem dX11_document_79 : decode cX11_document 79 = .ok (.getfield 31, 3) := by decide +kernel
theorem dX11_document_82 : decode cX11_document 82 = .ok (.iload_n 1, 1) := by decide +kernel
theorem dX11_document_83 : decode cX11_document 83 = .ok (.invokevirtual 195, 3) := by decide +kernel
theorem dX11_document_86 : decode cX11_document 86 = .ok (.ireturn, 1) := by decide +kernel
theorem dX11_document_87 : decode cX11_document 87 = .ok (.aload_n 0, 1) := by decide +kernel
theorem dX11_document_88 : decode cX11_document 88 = .ok (.getfield 31, 3) := by decide +kernel
theorem dX11_document_91 : decode cX11_document 91 = .ok (.iload_n 1, 1) := by decide +kernel
theorem dX11_document_92 : decode cX11_document 92 = .ok (.invokevirtual 198, 3) := by decide +kernel
theorem dX11_document_95 : decode cX11_document 95 = .ok (.ireturn, 1) := by decide +kernel
theorem dX11_document_96 : decode cX11_document 96 = .ok (.iconst (-1), 1) := by decide +kernel
theorem dX11_document_97 : decode cX11_document 97 = .ok (.ireturn, 1) := by decide +kernel
theorem dX11_look_0 : decode cX11_look 0 = .ok (.aload_n 0, 1) := by decide +kernel
theorem dX11_look_1 : decode cX11_look 1 = .ok (.aload_n 0, 1) := by decide +kernel
theorem dX11_look_2 : decode cX11_look 2 = .ok (.getfield 12, 3) := by decide +kernel
theorem dX11_look_5 : decode cX11_look 5 = .ok (.invokevirtual 165, 3) := by decide +kernel
theorem dX11_look_8 : decode cX11_look 8 = .ok (.putfield 90, 3) := by decide +kernel
theorem dX11_look_11 : decode cX11_look 11 = .ok (.aload_n 0, 1) := by decide +kernel
theorem dX11_look_12 : decode cX11_look 12 = .ok (.getfield 12, 3) := by decide +kernel
theorem dX11_look_15 : decode cX11_look 15 = .ok (.invokevirtual 118, 3) := by decide +kernel
theorem dX11_look_18 : decode cX11_look 18 = .ok (.aload_n 0, 1) := by decide +kernel
theorem dX11_look_19 : decode cX11_look 19 = .ok (.getfield 38, 3) := by decide +kernel
theorem dX11_look_22 : decode cX11_look 22 = .ok (.aload_n 0, 1) := by decide +kernel
theorem dX11_look_23 : decode cX11_look 23 = .ok (.getfield 21, 3) := by decide +kernel
theorem dX11_look_26 : decode cX11_look 26 = .ok (.aload_n 0, 1) := by decide +kernel
theorem dX11_look_27 : decode cX11_look 27 = .ok (.getfield 90, 3) := by decide +kernel
theorem dX11_look_30 : decode cX11_look 30 = .ok (.invokevirtual 201, 3) := by decide +kernel
theorem dX11_look_33 : decode cX11_look 33 = .ok (.invokevirtual 204, 3) := by decide +kernel
theorem dX11_look_36 : decode cX11_look 36 = .ok (.ireturn, 1) := by decide +kernel
theorem dX11_posting_0 : decode cX11_posting 0 = .ok (.aload_n 0, 1) := by decide +kernel
theorem dX11_posting_1 : decode cX11_posting 1 = .ok (.getfield 90, 3) := by decide +kernel
theorem dX11_posting_4 : decode cX11_posting 4 = .ok (.ldc2_w 88, 3) := by decide +kernel
theorem dX11_posting_7 : decode cX11_posting 7 = .ok (.lcmp, 1) := by decide +kernel
theorem dX11_posting_8 : decode cX11_posting 8 = .ok (.ifCond .eq 12, 3) := by decide +kernel
theorem dX11_posting_11 : decode cX11_posting 11 = .ok (.iload_n 1, 1) := by decide +kernel
theorem dX11_posting_12 : decode cX11_posting 12 = .ok (.ifCond .lt 8, 3) := by decide +kernel
theorem dX11_posting_15 : decode cX11_posting 15 = .ok (.iload_n 1, 1) := by decide +kernel
theorem dX11_posting_16 : decode cX11_posting 16 = .ok (.iconst 4, 1) := by decide +kernel
theorem dX11_posting_17 : decode cX11_posting 17 = .ok (.if_icmp .le 5, 3) := by decide +kernel
theorem dX11_posting_20 : decode cX11_posting 20 = .ok (.iconst (-1), 1) := by decide +kernel
theorem dX11_posting_21 : decode cX11_posting 21 = .ok (.ireturn, 1) := by decide +kernel
theorem dX11_posting_22 : decode cX11_posting 22 = .ok (.aload_n 0, 1) := by decide +kernel
theorem dX11_posting_23 : decode cX11_posting 23 = .ok (.getfield 21, 3) := by decide +kernel
theorem dX11_posting_26 : decode cX11_posting 26 = .ok (.aload_n 0, 1) := by decide +kernel
theorem dX11_posting_27 : decode cX11_posting 27 = .ok (.getfield 90, 3) := by decide +kernel
theorem dX11_posting_30 : decode cX11_posting 30 = .ok (.invokevirtual 169, 3) := by decide +kernel
theorem dX11_posting_33 : decode cX11_posting 33 = .ok (.istore_n 2, 1) := by decide +kernel
theorem dX11_posting_34 : decode cX11_posting 34 = .ok (.iload_n 2, 1) := by decide +kernel
theorem dX11_posting_35 : decode cX11_posting 35 = .ok (.iconst (-1), 1) := by decide +kernel
theorem dX11_posting_36 : decode cX11_posting 36 = .ok (.if_icmp .ne 5, 3) := by decide +kernel
theorem dX11_posting_39 : decode cX11_posting 39 = .ok (.iconst 0, 1) := by decide +kernel
theorem dX11_posting_40 : decode cX11_posting 40 = .ok (.ireturn, 1) := by decide +kernel
theorem dX11_posting_41 : decode cX11_posting 41 = .ok (.aload_n 0, 1) := by decide +kernel
theorem dX11_posting_42 : decode cX11_posting 42 = .ok (.getfield 21, 3) := by decide +kernel
theorem dX11_posting_45 : decode cX11_posting 45 = .ok (.iload_n 2, 1) := by decide +kernel
theorem dX11_posting_46 : decode cX11_posting 46 = .ok (.invokevirtual 175, 3) := by decide +kernel
theorem dX11_posting_49 : decode cX11_posting 49 = .ok (.istore_n 3, 1) := by decide +kernel
theorem dX11_posting_50 : decode cX11_posting 50 = .ok (.iload_n 1, 1) := by decide +kernel
theorem dX11_posting_51 : decode cX11_posting 51 = .ok (.tableswitch 90 0 3 #[29, 38, 50, 70], 29) := by decide +kernel
theorem dX11_posting_80 : decode cX11_posting 80 = .ok (.aload_n 0, 1) := by decide +kernel
theorem dX11_posting_81 : decode cX11_posting 81 = .ok (.getfield 38, 3) := by decide +kernel
theorem dX11_posting_84 : decode cX11_posting 84 = .ok (.iload_n 3, 1) := by decide +kernel
theorem dX11_posting_85 : decode cX11_posting 85 = .ok (.invokevirtual 207, 3) := by decide +kernel
theorem dX11_posting_88 : decode cX11_posting 88 = .ok (.ireturn, 1) := by decide +kernel
theorem dX11_posting_89 : decode cX11_posting 89 = .ok (.aload_n 0, 1) := by decide +kernel
theorem dX11_posting_90 : decode cX11_posting 90 = .ok (.getfield 38, 3) := by decide +kernel
theorem dX11_posting_93 : decode cX11_posting 93 = .ok (.iload_n 3, 1) := by decide +kernel
theorem dX11_posting_94 : decode cX11_posting 94 = .ok (.invokevirtual 207, 3) := by decide +kernel
theorem dX11_posting_97 : decode cX11_posting 97 = .ok (.invokestatic 210, 3) := by decide +kernel
theorem dX11_posting_100 : decode cX11_posting 100 = .ok (.ireturn, 1) := by decide +kernel
theorem dX11_posting_101 : decode cX11_posting 101 = .ok (.aload_n 0, 1) := by decide +kernel
theorem dX11_posting_102 : decode cX11_posting 102 = .ok (.getfield 47, 3) := by decide +kernel
theorem dX11_posting_105 : decode cX11_posting 105 = .ok (.iload_n 3, 1) := by decide +kernel
theorem dX11_posting_106 : decode cX11_posting 106 = .ok (.invokevirtual 149, 3) := by decide +kernel
theorem dX11_posting_109 : decode cX11_posting 109 = .ok (.aload_n 0, 1) := by decide +kernel
theorem dX11_posting_110 : decode cX11_posting 110 = .ok (.getfield 47, 3) := by decide +kernel
theorem dX11_posting_113 : decode cX11_posting 113 = .ok (.aload_n 0, 1) := by decide +kernel
theorem dX11_posting_114 : decode cX11_posting 114 = .ok (.getfield 31, 3) := by decide +kernel
theorem dX11_posting_117 : decode cX11_posting 117 = .ok (.invokevirtual 213, 3) := by decide +kernel
theorem dX11_posting_120 : decode cX11_posting 120 = .ok (.ireturn, 1) := by decide +kernel
theorem dX11_posting_121 : decode cX11_posting 121 = .ok (.aload_n 0, 1) := by decide +kernel
theorem dX11_posting_122 : decode cX11_posting 122 = .ok (.getfield 47, 3) := by decide +kernel
theorem dX11_posting_125 : decode cX11_posting 125 = .ok (.iload_n 3, 1) := by decide +kernel
theorem dX11_posting_126 : decode cX11_posting 126 = .ok (.invokevirtual 149, 3) := by decide +kernel
theorem dX11_posting_129 : decode cX11_posting 129 = .ok (.aload_n 0, 1) := by decide +kernel
theorem dX11_posting_130 : decode cX11_posting 130 = .ok (.getfield 47, 3) := by decide +kernel
theorem dX11_posting_133 : decode cX11_posting 133 = .ok (.aload_n 0, 1) := by decide +kernel
theorem dX11_posting_134 : decode cX11_posting 134 = .ok (.getfield 31, 3) := by decide +kernel
theorem dX11_posting_137 : decode cX11_posting 137 = .ok (.invokevirtual 217, 3) := by decide +kernel
theorem dX11_posting_140 : decode cX11_posting 140 = .ok (.ireturn, 1) := by decide +kernel
theorem dX11_posting_141 : decode cX11_posting 141 = .ok (.iload_n 2, 1) := by decide +kernel
theorem dX11_posting_142 : decode cX11_posting 142 = .ok (.ireturn, 1) := by decide +kernel
theorem dX11_bit_0 : decode cX11_bit 0 = .ok (.aload_n 0, 1) := by decide +kernel
theorem dX11_bit_1 : decode cX11_bit 1 = .ok (.getfield 21, 3) := by decide +kernel
theorem dX11_bit_4 : decode cX11_bit 4 = .ok (.aload_n 0, 1) := by decide +kernel
theorem dX11_bit_5 : decode cX11_bit 5 = .ok (.getfield 90, 3) := by decide +kernel
theorem dX11_bit_8 : decode cX11_bit 8 = .ok (.invokevirtual 201, 3) := by decide +kernel
theorem dX11_bit_11 : decode cX11_bit 11 = .ok (.istore_n 2, 1) := by decide +kernel
theorem dX11_bit_12 : decode cX11_bit 12 = .ok (.iload_n 1, 1) := by decide +kernel
