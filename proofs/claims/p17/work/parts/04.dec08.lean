theorem dX13_takeWord_167 : decode cX13_takeWord 167 = .ok (.aload_n 0, 1) := by decide +kernel
theorem dX13_takeWord_168 : decode cX13_takeWord 168 = .ok (.iconst 0, 1) := by decide +kernel
theorem dX13_takeWord_169 : decode cX13_takeWord 169 = .ok (.bipush 105, 2) := by decide +kernel
theorem dX13_takeWord_171 : decode cX13_takeWord 171 = .ok (.bipush 115, 2) := by decide +kernel
theorem dX13_takeWord_173 : decode cX13_takeWord 173 = .ok (.iconst 4, 1) := by decide +kernel
theorem dX13_takeWord_174 : decode cX13_takeWord 174 = .ok (.invokevirtual 204, 3) := by decide +kernel
theorem dX13_takeWord_177 : decode cX13_takeWord 177 = .ok (.ifCond .ne 13, 3) := by decide +kernel
theorem dX13_takeWord_180 : decode cX13_takeWord 180 = .ok (.aload_n 0, 1) := by decide +kernel
theorem dX13_takeWord_181 : decode cX13_takeWord 181 = .ok (.dup, 1) := by decide +kernel
theorem dX13_takeWord_182 : decode cX13_takeWord 182 = .ok (.getfield 193, 3) := by decide +kernel
theorem dX13_takeWord_185 : decode cX13_takeWord 185 = .ok (.iconst 1, 1) := by decide +kernel
theorem dX13_takeWord_186 : decode cX13_takeWord 186 = .ok (.isub, 1) := by decide +kernel
theorem dX13_takeWord_187 : decode cX13_takeWord 187 = .ok (.putfield 193, 3) := by decide +kernel
theorem dX13_takeWord_190 : decode cX13_takeWord 190 = .ok (.return_, 1) := by decide +kernel
theorem dX13_isSame_0 : decode cX13_isSame 0 = .ok (.iload_n 3, 1) := by decide +kernel
theorem dX13_isSame_1 : decode cX13_isSame 1 = .ok (.aload_n 0, 1) := by decide +kernel
theorem dX13_isSame_2 : decode cX13_isSame 2 = .ok (.getfield 193, 3) := by decide +kernel
theorem dX13_isSame_5 : decode cX13_isSame 5 = .ok (.if_icmp .eq 5, 3) := by decide +kernel
theorem dX13_isSame_8 : decode cX13_isSame 8 = .ok (.iconst 0, 1) := by decide +kernel
theorem dX13_isSame_9 : decode cX13_isSame 9 = .ok (.ireturn, 1) := by decide +kernel
theorem dX13_isSame_10 : decode cX13_isSame 10 = .ok (.iconst 0, 1) := by decide +kernel
theorem dX13_isSame_11 : decode cX13_isSame 11 = .ok (.istore 4, 2) := by decide +kernel
theorem dX13_isSame_13 : decode cX13_isSame 13 = .ok (.iload 4, 2) := by decide +kernel
theorem dX13_isSame_15 : decode cX13_isSame 15 = .ok (.iload_n 3, 1) := by decide +kernel
theorem dX13_isSame_16 : decode cX13_isSame 16 = .ok (.if_icmp .ge 27, 3) := by decide +kernel
theorem dX13_isSame_19 : decode cX13_isSame 19 = .ok (.aload_n 1, 1) := by decide +kernel
theorem dX13_isSame_20 : decode cX13_isSame 20 = .ok (.iload_n 2, 1) := by decide +kernel
theorem dX13_isSame_21 : decode cX13_isSame 21 = .ok (.iload 4, 2) := by decide +kernel
theorem dX13_isSame_23 : decode cX13_isSame 23 = .ok (.iadd, 1) := by decide +kernel
theorem dX13_isSame_24 : decode cX13_isSame 24 = .ok (.baload, 1) := by decide +kernel
theorem dX13_isSame_25 : decode cX13_isSame 25 = .ok (.aload_n 0, 1) := by decide +kernel
theorem dX13_isSame_26 : decode cX13_isSame 26 = .ok (.getfield 60, 3) := by decide +kernel
theorem dX13_isSame_29 : decode cX13_isSame 29 = .ok (.iload 4, 2) := by decide +kernel
theorem dX13_isSame_31 : decode cX13_isSame 31 = .ok (.baload, 1) := by decide +kernel
theorem dX13_isSame_32 : decode cX13_isSame 32 = .ok (.if_icmp .eq 5, 3) := by decide +kernel
theorem dX13_isSame_35 : decode cX13_isSame 35 = .ok (.iconst 0, 1) := by decide +kernel
theorem dX13_isSame_36 : decode cX13_isSame 36 = .ok (.ireturn, 1) := by decide +kernel
theorem dX13_isSame_37 : decode cX13_isSame 37 = .ok (.iinc 4 1, 3) := by decide +kernel
theorem dX13_isSame_40 : decode cX13_isSame 40 = .ok (.goto (-27), 3) := by decide +kernel
theorem dX13_isSame_43 : decode cX13_isSame 43 = .ok (.iconst 1, 1) := by decide +kernel
theorem dX13_isSame_44 : decode cX13_isSame 44 = .ok (.ireturn, 1) := by decide +kernel
theorem dX13_find_0 : decode cX13_find 0 = .ok (.iconst 0, 1) := by decide +kernel
theorem dX13_find_1 : decode cX13_find 1 = .ok (.istore_n 1, 1) := by decide +kernel
theorem dX13_find_2 : decode cX13_find 2 = .ok (.iload_n 1, 1) := by decide +kernel
theorem dX13_find_3 : decode cX13_find 3 = .ok (.aload_n 0, 1) := by decide +kernel
theorem dX13_find_4 : decode cX13_find 4 = .ok (.getfield 208, 3) := by decide +kernel
theorem dX13_find_7 : decode cX13_find 7 = .ok (.if_icmp .ge 32, 3) := by decide +kernel
theorem dX13_find_10 : decode cX13_find 10 = .ok (.aload_n 0, 1) := by decide +kernel
theorem dX13_find_11 : decode cX13_find 11 = .ok (.aload_n 0, 1) := by decide +kernel
theorem dX13_find_12 : decode cX13_find 12 = .ok (.getfield 13, 3) := by decide +kernel
theorem dX13_find_15 : decode cX13_find 15 = .ok (.bipush 12, 2) := by decide +kernel
theorem dX13_find_17 : decode cX13_find 17 = .ok (.iload_n 1, 1) := by decide +kernel
theorem dX13_find_18 : decode cX13_find 18 = .ok (.imul, 1) := by decide +kernel
theorem dX13_find_19 : decode cX13_find 19 = .ok (.aload_n 0, 1) := by decide +kernel
theorem dX13_find_20 : decode cX13_find 20 = .ok (.getfield 16, 3) := by decide +kernel
theorem dX13_find_23 : decode cX13_find 23 = .ok (.iload_n 1, 1) := by decide +kernel
theorem dX13_find_24 : decode cX13_find 24 = .ok (.iaload, 1) := by decide +kernel
theorem dX13_find_25 : decode cX13_find 25 = .ok (.invokevirtual 211, 3) := by decide +kernel
theorem dX13_find_28 : decode cX13_find 28 = .ok (.ifCond .eq 5, 3) := by decide +kernel
theorem dX13_find_31 : decode cX13_find 31 = .ok (.iload_n 1, 1) := by decide +kernel
theorem dX13_find_32 : decode cX13_find 32 = .ok (.ireturn, 1) := by decide +kernel
theorem dX13_find_33 : decode cX13_find 33 = .ok (.iinc 1 1, 3) := by decide +kernel
theorem dX13_find_36 : decode cX13_find 36 = .ok (.goto (-34), 3) := by decide +kernel
theorem dX13_find_39 : decode cX13_find 39 = .ok (.iconst (-1), 1) := by decide +kernel
theorem dX13_find_40 : decode cX13_find 40 = .ok (.ireturn, 1) := by decide +kernel
theorem dX13_findStop_0 : decode cX13_findStop 0 = .ok (.iconst 0, 1) := by decide +kernel
theorem dX13_findStop_1 : decode cX13_findStop 1 = .ok (.istore_n 1, 1) := by decide +kernel
theorem dX13_findStop_2 : decode cX13_findStop 2 = .ok (.iload_n 1, 1) := by decide +kernel
theorem dX13_findStop_3 : decode cX13_findStop 3 = .ok (.aload_n 0, 1) := by decide +kernel
theorem dX13_findStop_4 : decode cX13_findStop 4 = .ok (.getfield 215, 3) := by decide +kernel
theorem dX13_findStop_7 : decode cX13_findStop 7 = .ok (.if_icmp .ge 32, 3) := by decide +kernel
theorem dX13_findStop_10 : decode cX13_findStop 10 = .ok (.aload_n 0, 1) := by decide +kernel
theorem dX13_findStop_11 : decode cX13_findStop 11 = .ok (.aload_n 0, 1) := by decide +kernel
theorem dX13_findStop_12 : decode cX13_findStop 12 = .ok (.getfield 47, 3) := by decide +kernel
theorem dX13_findStop_15 : decode cX13_findStop 15 = .ok (.bipush 12, 2) := by decide +kernel
theorem dX13_findStop_17 : decode cX13_findStop 17 = .ok (.iload_n 1, 1) := by decide +kernel
theorem dX13_findStop_18 : decode cX13_findStop 18 = .ok (.imul, 1) := by decide +kernel
theorem dX13_findStop_19 : decode cX13_findStop 19 = .ok (.aload_n 0, 1) := by decide +kernel
theorem dX13_findStop_20 : decode cX13_findStop 20 = .ok (.getfield 50, 3) := by decide +kernel
theorem dX13_findStop_23 : decode cX13_findStop 23 = .ok (.iload_n 1, 1) := by decide +kernel
theorem dX13_findStop_24 : decode cX13_findStop 24 = .ok (.iaload, 1) := by decide +kernel
theorem dX13_findStop_25 : decode cX13_findStop 25 = .ok (.invokevirtual 211, 3) := by decide +kernel
theorem dX13_findStop_28 : decode cX13_findStop 28 = .ok (.ifCond .eq 5, 3) := by decide +kernel
theorem dX13_findStop_31 : decode cX13_findStop 31 = .ok (.iload_n 1, 1) := by decide +kernel
theorem dX13_findStop_32 : decode cX13_findStop 32 = .ok (.ireturn, 1) := by decide +kernel
theorem dX13_findStop_33 : decode cX13_findStop 33 = .ok (.iinc 1 1, 3) := by decide +kernel
theorem dX13_findStop_36 : decode cX13_findStop 36 = .ok (.goto (-34), 3) := by decide +kernel
theorem dX13_findStop_39 : decode cX13_findStop 39 = .ok (.iconst (-1), 1) := by decide +kernel
theorem dX13_findStop_40 : decode cX13_findStop 40 = .ok (.ireturn, 1) := by decide +kernel
theorem dX13_order_0 : decode cX13_order 0 = .ok (.iconst 0, 1) := by decide +kernel
theorem dX13_order_1 : decode cX13_order 1 = .ok (.istore_n 3, 1) := by decide +kernel
theorem dX13_order_2 : decode cX13_order 2 = .ok (.iload_n 3, 1) := by decide +kernel
theorem dX13_order_3 : decode cX13_order 3 = .ok (.aload_n 0, 1) := by decide +kernel
theorem dX13_order_4 : decode cX13_order 4 = .ok (.getfield 16, 3) := by decide +kernel
theorem dX13_order_7 : decode cX13_order 7 = .ok (.iload_n 1, 1) := by decide +kernel
theorem dX13_order_8 : decode cX13_order 8 = .ok (.iaload, 1) := by decide +kernel
theorem dX13_order_9 : decode cX13_order 9 = .ok (.if_icmp .ge 68, 3) := by decide +kernel
theorem dX13_order_12 : decode cX13_order 12 = .ok (.iload_n 3, 1) := by decide +kernel
theorem dX13_order_13 : decode cX13_order 13 = .ok (.aload_n 0, 1) := by decide +kernel
theorem dX13_order_14 : decode cX13_order 14 = .ok (.getfield 16, 3) := by decide +kernel
theorem dX13_order_17 : decode cX13_order 17 = .ok (.iload_n 2, 1) := by decide +kernel
theorem dX13_order_18 : decode cX13_order 18 = .ok (.iaload, 1) := by decide +kernel
theorem dX13_order_19 : decode cX13_order 19 = .ok (.if_icmp .ge 58, 3) := by decide +kernel
theorem dX13_order_22 : decode cX13_order 22 = .ok (.aload_n 0, 1) := by decide +kernel
theorem dX13_order_23 : decode cX13_order 23 = .ok (.getfield 13, 3) := by decide +kernel
theorem dX13_order_26 : decode cX13_order 26 = .ok (.bipush 12, 2) := by decide +kernel
theorem dX13_order_28 : decode cX13_order 28 = .ok (.iload_n 1, 1) := by decide +kernel
theorem dX13_order_29 : decode cX13_order 29 = .ok (.imul, 1) := by decide +kernel
theorem dX13_order_30 : decode cX13_order 30 = .ok (.iload_n 3, 1) := by decide +kernel
theorem dX13_order_31 : decode cX13_order 31 = .ok (.iadd, 1) := by decide +kernel
theorem dX13_order_32 : decode cX13_order 32 = .ok (.baload, 1) := by decide +kernel
theorem dX13_order_33 : decode cX13_order 33 = .ok (.aload_n 0, 1) := by decide +kernel
theorem dX13_order_34 : decode cX13_order 34 = .ok (.getfield 13, 3) := by decide +kernel
theorem dX13_order_37 : decode cX13_order 37 = .ok (.bipush 12, 2) := by decide +kernel
theorem dX13_order_39 : decode cX13_order 39 = .ok (.iload_n 2, 1) := by decide +kernel
theorem dX13_order_40 : decode cX13_order 40 = .ok (.imul, 1) := by decide +kernel
theorem dX13_order_41 : decode cX13_order 41 = .ok (.iload_n 3, 1) := by decide +kernel
theorem dX13_order_42 : decode cX13_order 42 = .ok (.iadd, 1) := by decide +kernel
theorem dX13_order_43 : decode cX13_order 43 = .ok (.baload, 1) := by decide +kernel
theorem dX13_order_44 : decode cX13_order 44 = .ok (.if_icmp .eq 27, 3) := by decide +kernel
theorem dX13_order_47 : decode cX13_order 47 = .ok (.aload_n 0, 1) := by decide +kernel
theorem dX13_order_48 : decode cX13_order 48 = .ok (.getfield 13, 3) := by decide +kernel
theorem dX13_order_51 : decode cX13_order 51 = .ok (.bipush 12, 2) := by decide +kernel
theorem dX13_order_53 : decode cX13_order 53 = .ok (.iload_n 1, 1) := by decide +kernel
theorem dX13_order_54 : decode cX13_order 54 = .ok (.imul, 1) := by decide +kernel
theorem dX13_order_55 : decode cX13_order 55 = .ok (.iload_n 3, 1) := by decide +kernel
theorem dX13_order_56 : decode cX13_order 56 = .ok (.iadd, 1) := by decide +kernel
theorem dX13_order_57 : decode cX13_order 57 = .ok (.baload, 1) := by decide +kernel
theorem dX13_order_58 : decode cX13_order 58 = .ok (.aload_n 0, 1) := by decide +kernel
theorem dX13_order_59 : decode cX13_order 59 = .ok (.getfield 13, 3) := by decide +kernel
theorem dX13_order_62 : decode cX13_order 62 = .ok (.bipush 12, 2) := by decide +kernel
theorem dX13_order_64 : decode cX13_order 64 = .ok (.iload_n 2, 1) := by decide +kernel
theorem dX13_order_65 : decode cX13_order 65 = .ok (.imul, 1) := by decide +kernel
theorem dX13_order_66 : decode cX13_order 66 = .ok (.iload_n 3, 1) := by decide +kernel
theorem dX13_order_67 : decode cX13_order 67 = .ok (.iadd, 1) := by decide +kernel
theorem dX13_order_68 : decode cX13_order 68 = .ok (.baload, 1) := by decide +kernel
theorem dX13_order_69 : decode cX13_order 69 = .ok (.isub, 1) := by decide +kernel
theorem dX13_order_70 : decode cX13_order 70 = .ok (.ireturn, 1) := by decide +kernel
theorem dX13_order_71 : decode cX13_order 71 = .ok (.iinc 3 1, 3) := by decide +kernel
theorem dX13_order_74 : decode cX13_order 74 = .ok (.goto (-72), 3) := by decide +kernel
theorem dX13_order_77 : decode cX13_order 77 = .ok (.aload_n 0, 1) := by decide +kernel
theorem dX13_order_78 : decode cX13_order 78 = .ok (.getfield 16, 3) := by decide +kernel
theorem dX13_order_81 : decode cX13_order 81 = .ok (.iload_n 1, 1) := by decide +kernel
theorem dX13_order_82 : decode cX13_order 82 = .ok (.iaload, 1) := by decide +kernel
theorem dX13_order_83 : decode cX13_order 83 = .ok (.aload_n 0, 1) := by decide +kernel
theorem dX13_order_84 : decode cX13_order 84 = .ok (.getfield 16, 3) := by decide +kernel
theorem dX13_order_87 : decode cX13_order 87 = .ok (.iload_n 2, 1) := by decide +kernel
theorem dX13_order_88 : decode cX13_order 88 = .ok (.iaload, 1) := by decide +kernel
theorem dX13_order_89 : decode cX13_order 89 = .ok (.isub, 1) := by decide +kernel
theorem dX13_order_90 : decode cX13_order 90 = .ok (.ireturn, 1) := by decide +kernel
theorem dX13_ahead_0 : decode cX13_ahead 0 = .ok (.iconst 0, 1) := by decide +kernel
theorem dX13_ahead_1 : decode cX13_ahead 1 = .ok (.istore_n 2, 1) := by decide +kernel
theorem dX13_ahead_2 : decode cX13_ahead 2 = .ok (.iconst 0, 1) := by decide +kernel
theorem dX13_ahead_3 : decode cX13_ahead 3 = .ok (.istore_n 3, 1) := by decide +kernel
theorem dX13_ahead_4 : decode cX13_ahead 4 = .ok (.iload_n 3, 1) := by decide +kernel
theorem dX13_ahead_5 : decode cX13_ahead 5 = .ok (.aload_n 0, 1) := by decide +kernel
theorem dX13_ahead_6 : decode cX13_ahead 6 = .ok (.getfield 208, 3) := by decide +kernel
theorem dX13_ahead_9 : decode cX13_ahead 9 = .ok (.if_icmp .ge 26, 3) := by decide +kernel
theorem dX13_ahead_12 : decode cX13_ahead 12 = .ok (.iload_n 2, 1) := by decide +kernel
theorem dX13_ahead_13 : decode cX13_ahead 13 = .ok (.aload_n 0, 1) := by decide +kernel
theorem dX13_ahead_14 : decode cX13_ahead 14 = .ok (.iload_n 3, 1) := by decide +kernel
theorem dX13_ahead_15 : decode cX13_ahead 15 = .ok (.iload_n 1, 1) := by decide +kernel
theorem dX13_ahead_16 : decode cX13_ahead 16 = .ok (.invokevirtual 218, 3) := by decide +kernel
theorem dX13_ahead_19 : decode cX13_ahead 19 = .ok (.ifCond .ge 7, 3) := by decide +kernel
theorem dX13_ahead_22 : decode cX13_ahead 22 = .ok (.iconst 1, 1) := by decide +kernel
theorem dX13_ahead_23 : decode cX13_ahead 23 = .ok (.goto 4, 3) := by decide +kernel
theorem dX13_ahead_26 : decode cX13_ahead 26 = .ok (.iconst 0, 1) := by decide +kernel
theorem dX13_ahead_27 : decode cX13_ahead 27 = .ok (.iadd, 1) := by decide +kernel
theorem dX13_ahead_28 : decode cX13_ahead 28 = .ok (.istore_n 2, 1) := by decide +kernel
theorem dX13_ahead_29 : decode cX13_ahead 29 = .ok (.iinc 3 1, 3) := by decide +kernel
theorem dX13_ahead_32 : decode cX13_ahead 32 = .ok (.goto (-28), 3) := by decide +kernel
theorem dX13_ahead_35 : decode cX13_ahead 35 = .ok (.iload_n 2, 1) := by decide +kernel
theorem dX13_ahead_36 : decode cX13_ahead 36 = .ok (.ireturn, 1) := by decide +kernel
theorem dX13_enter_0 : decode cX13_enter 0 = .ok (.aload_n 0, 1) := by decide +kernel
theorem dX13_enter_1 : decode cX13_enter 1 = .ok (.iconst 0, 1) := by decide +kernel
theorem dX13_enter_2 : decode cX13_enter 2 = .ok (.putfield 170, 3) := by decide +kernel
theorem dX13_enter_5 : decode cX13_enter 5 = .ok (.aload_n 0, 1) := by decide +kernel
theorem dX13_enter_6 : decode cX13_enter 6 = .ok (.getfield 173, 3) := by decide +kernel
theorem dX13_enter_9 : decode cX13_enter 9 = .ok (.istore_n 1, 1) := by decide +kernel
theorem dX13_enter_10 : decode cX13_enter 10 = .ok (.aload_n 0, 1) := by decide +kernel
theorem dX13_enter_11 : decode cX13_enter 11 = .ok (.iconst 0, 1) := by decide +kernel
theorem dX13_enter_12 : decode cX13_enter 12 = .ok (.putfield 173, 3) := by decide +kernel
theorem dX13_enter_15 : decode cX13_enter 15 = .ok (.aload_n 0, 1) := by decide +kernel
theorem dX13_enter_16 : decode cX13_enter 16 = .ok (.getfield 222, 3) := by decide +kernel
theorem dX13_enter_19 : decode cX13_enter 19 = .ok (.bipush 120, 2) := by decide +kernel
theorem dX13_enter_21 : decode cX13_enter 21 = .ok (.if_icmp .ne 6, 3) := by decide +kernel
theorem dX13_enter_24 : decode cX13_enter 24 = .ok (.bipush (-2), 2) := by decide +kernel
theorem dX13_enter_26 : decode cX13_enter 26 = .ok (.ireturn, 1) := by decide +kernel
theorem dX13_enter_27 : decode cX13_enter 27 = .ok (.aload_n 0, 1) := by decide +kernel
theorem dX13_enter_28 : decode cX13_enter 28 = .ok (.getfield 208, 3) := by decide +kernel
theorem dX13_enter_31 : decode cX13_enter 31 = .ok (.istore_n 2, 1) := by decide +kernel
theorem dX13_enter_32 : decode cX13_enter 32 = .ok (.aload_n 0, 1) := by decide +kernel
theorem dX13_enter_33 : decode cX13_enter 33 = .ok (.getfield 222, 3) := by decide +kernel
theorem dX13_enter_36 : decode cX13_enter 36 = .ok (.istore_n 3, 1) := by decide +kernel
theorem dX13_enter_37 : decode cX13_enter 37 = .ok (.iconst 0, 1) := by decide +kernel
theorem dX13_enter_38 : decode cX13_enter 38 = .ok (.istore 4, 2) := by decide +kernel
theorem dX13_enter_40 : decode cX13_enter 40 = .ok (.iconst 0, 1) := by decide +kernel
theorem dX13_enter_41 : decode cX13_enter 41 = .ok (.istore 5, 2) := by decide +kernel
theorem dX13_enter_43 : decode cX13_enter 43 = .ok (.iconst 0, 1) := by decide +kernel
theorem dX13_enter_44 : decode cX13_enter 44 = .ok (.istore 6, 2) := by decide +kernel
theorem dX13_enter_46 : decode cX13_enter 46 = .ok (.iconst 0, 1) := by decide +kernel
theorem dX13_enter_47 : decode cX13_enter 47 = .ok (.istore 7, 2) := by decide +kernel
theorem dX13_enter_49 : decode cX13_enter 49 = .ok (.aload_n 0, 1) := by decide +kernel
theorem dX13_enter_50 : decode cX13_enter 50 = .ok (.getfield 41, 3) := by decide +kernel
theorem dX13_enter_53 : decode cX13_enter 53 = .ok (.iload_n 3, 1) := by decide +kernel
theorem dX13_enter_54 : decode cX13_enter 54 = .ok (.iconst 0, 1) := by decide +kernel
theorem dX13_enter_55 : decode cX13_enter 55 = .ok (.iastore, 1) := by decide +kernel
theorem dX13_enter_56 : decode cX13_enter 56 = .ok (.iconst 0, 1) := by decide +kernel
theorem dX13_enter_57 : decode cX13_enter 57 = .ok (.istore 8, 2) := by decide +kernel
theorem dX13_enter_59 : decode cX13_enter 59 = .ok (.iload 8, 2) := by decide +kernel
theorem dX13_enter_61 : decode cX13_enter 61 = .ok (.iload_n 1, 1) := by decide +kernel
theorem dX13_enter_62 : decode cX13_enter 62 = .ok (.if_icmp .ge 156, 3) := by decide +kernel
theorem dX13_enter_65 : decode cX13_enter 65 = .ok (.iload 6, 2) := by decide +kernel
theorem dX13_enter_67 : decode cX13_enter 67 = .ok (.ifCond .ne 151, 3) := by decide +kernel
theorem dX13_enter_70 : decode cX13_enter 70 = .ok (.aload_n 0, 1) := by decide +kernel
theorem dX13_enter_71 : decode cX13_enter 71 = .ok (.getfield 9, 3) := by decide +kernel
theorem dX13_enter_74 : decode cX13_enter 74 = .ok (.iload 8, 2) := by decide +kernel
theorem dX13_enter_76 : decode cX13_enter 76 = .ok (.baload, 1) := by decide +kernel
theorem dX13_enter_77 : decode cX13_enter 77 = .ok (.invokestatic 190, 3) := by decide +kernel
theorem dX13_enter_80 : decode cX13_enter 80 = .ok (.ifCond .ne 42, 3) := by decide +kernel
theorem dX13_enter_83 : decode cX13_enter 83 = .ok (.aload_n 0, 1) := by decide +kernel
theorem dX13_enter_84 : decode cX13_enter 84 = .ok (.getfield 9, 3) := by decide +kernel
theorem dX13_enter_87 : decode cX13_enter 87 = .ok (.iload 8, 2) := by decide +kernel
theorem dX13_enter_89 : decode cX13_enter 89 = .ok (.baload, 1) := by decide +kernel
theorem dX13_enter_90 : decode cX13_enter 90 = .ok (.bipush 10, 2) := by decide +kernel
theorem dX13_enter_92 : decode cX13_enter 92 = .ok (.if_icmp .ne 24, 3) := by decide +kernel
theorem dX13_enter_95 : decode cX13_enter 95 = .ok (.iload 5, 2) := by decide +kernel
theorem dX13_enter_97 : decode cX13_enter 97 = .ok (.ifCond .ne 19, 3) := by decide +kernel
theorem dX13_enter_100 : decode cX13_enter 100 = .ok (.aload_n 0, 1) := by decide +kernel
theorem dX13_enter_101 : decode cX13_enter 101 = .ok (.getfield 41, 3) := by decide +kernel
theorem dX13_enter_104 : decode cX13_enter 104 = .ok (.iload_n 3, 1) := by decide +kernel
theorem dX13_enter_105 : decode cX13_enter 105 = .ok (.iload 4, 2) := by decide +kernel
theorem dX13_enter_107 : decode cX13_enter 107 = .ok (.iastore, 1) := by decide +kernel
theorem dX13_enter_108 : decode cX13_enter 108 = .ok (.iconst 1, 1) := by decide +kernel
theorem dX13_enter_109 : decode cX13_enter 109 = .ok (.istore 5, 2) := by decide +kernel
theorem dX13_enter_111 : decode cX13_enter 111 = .ok (.sipush 512, 3) := by decide +kernel
theorem dX13_enter_114 : decode cX13_enter 114 = .ok (.istore 4, 2) := by decide +kernel
theorem dX13_enter_116 : decode cX13_enter 116 = .ok (.iinc 8 1, 3) := by decide +kernel
theorem dX13_enter_119 : decode cX13_enter 119 = .ok (.goto (-60), 3) := by decide +kernel
theorem dX13_enter_122 : decode cX13_enter 122 = .ok (.aload_n 0, 1) := by decide +kernel
theorem dX13_enter_123 : decode cX13_enter 123 = .ok (.iload 8, 2) := by decide +kernel
theorem dX13_enter_125 : decode cX13_enter 125 = .ok (.iload_n 1, 1) := by decide +kernel
theorem dX13_enter_126 : decode cX13_enter 126 = .ok (.invokevirtual 225, 3) := by decide +kernel
theorem dX13_enter_129 : decode cX13_enter 129 = .ok (.istore 9, 2) := by decide +kernel
theorem dX13_enter_131 : decode cX13_enter 131 = .ok (.aload_n 0, 1) := by decide +kernel
theorem dX13_enter_132 : decode cX13_enter 132 = .ok (.iload 8, 2) := by decide +kernel
theorem dX13_enter_134 : decode cX13_enter 134 = .ok (.iload 9, 2) := by decide +kernel
theorem dX13_enter_136 : decode cX13_enter 136 = .ok (.invokevirtual 228, 3) := by decide +kernel
theorem dX13_enter_139 : decode cX13_enter 139 = .ok (.iload 9, 2) := by decide +kernel
theorem dX13_enter_141 : decode cX13_enter 141 = .ok (.istore 8, 2) := by decide +kernel
theorem dX13_enter_143 : decode cX13_enter 143 = .ok (.aload_n 0, 1) := by decide +kernel
theorem dX13_enter_144 : decode cX13_enter 144 = .ok (.invokevirtual 231, 3) := by decide +kernel
theorem dX13_enter_147 : decode cX13_enter 147 = .ok (.iconst (-1), 1) := by decide +kernel
theorem dX13_enter_148 : decode cX13_enter 148 = .ok (.if_icmp .ne 64, 3) := by decide +kernel
theorem dX13_enter_151 : decode cX13_enter 151 = .ok (.aload_n 0, 1) := by decide +kernel
theorem dX13_enter_152 : decode cX13_enter 152 = .ok (.invokevirtual 235, 3) := by decide +kernel
theorem dX13_enter_155 : decode cX13_enter 155 = .ok (.istore 10, 2) := by decide +kernel
theorem dX13_enter_157 : decode cX13_enter 157 = .ok (.iload 10, 2) := by decide +kernel
theorem dX13_enter_159 : decode cX13_enter 159 = .ok (.iconst (-1), 1) := by decide +kernel
theorem dX13_enter_160 : decode cX13_enter 160 = .ok (.if_icmp .ne 19, 3) := by decide +kernel
theorem dX13_enter_163 : decode cX13_enter 163 = .ok (.aload_n 0, 1) := by decide +kernel
theorem dX13_enter_164 : decode cX13_enter 164 = .ok (.getfield 208, 3) := by decide +kernel
theorem dX13_enter_167 : decode cX13_enter 167 = .ok (.sipush 400, 3) := by decide +kernel
theorem dX13_enter_170 : decode cX13_enter 170 = .ok (.if_icmp .ne 9, 3) := by decide +kernel
theorem dX13_enter_173 : decode cX13_enter 173 = .ok (.iconst 1, 1) := by decide +kernel
theorem dX13_enter_174 : decode cX13_enter 174 = .ok (.istore 6, 2) := by decide +kernel
theorem dX13_enter_176 : decode cX13_enter 176 = .ok (.goto 36, 3) := by decide +kernel
theorem dX13_enter_179 : decode cX13_enter 179 = .ok (.iload 10, 2) := by decide +kernel
theorem dX13_enter_181 : decode cX13_enter 181 = .ok (.iconst (-1), 1) := by decide +kernel
theorem dX13_enter_182 : decode cX13_enter 182 = .ok (.if_icmp .ne 9, 3) := by decide +kernel
theorem dX13_enter_185 : decode cX13_enter 185 = .ok (.aload_n 0, 1) := by decide +kernel
theorem dX13_enter_186 : decode cX13_enter 186 = .ok (.invokevirtual 238, 3) := by decide +kernel
theorem dX13_enter_189 : decode cX13_enter 189 = .ok (.istore 10, 2) := by decide +kernel
theorem dX13_enter_191 : decode cX13_enter 191 = .ok (.aload_n 0, 1) := by decide +kernel
theorem dX13_enter_192 : decode cX13_enter 192 = .ok (.getfield 21, 3) := by decide +kernel
theorem dX13_enter_195 : decode cX13_enter 195 = .ok (.sipush 1024, 3) := by decide +kernel
theorem dX13_enter_198 : decode cX13_enter 198 = .ok (.iload_n 3, 1) := by decide +kernel
theorem dX13_enter_199 : decode cX13_enter 199 = .ok (.imul, 1) := by decide +kernel
theorem dX13_enter_200 : decode cX13_enter 200 = .ok (.iload 4, 2) := by decide +kernel
theorem dX13_enter_202 : decode cX13_enter 202 = .ok (.iadd, 1) := by decide +kernel
theorem dX13_enter_203 : decode cX13_enter 203 = .ok (.iload 10, 2) := by decide +kernel
theorem dX13_enter_205 : decode cX13_enter 205 = .ok (.iconst 1, 1) := by decide +kernel
theorem dX13_enter_206 : decode cX13_enter 206 = .ok (.iadd, 1) := by decide +kernel
theorem dX13_enter_207 : decode cX13_enter 207 = .ok (.i2s, 1) := by decide +kernel
theorem dX13_enter_208 : decode cX13_enter 208 = .ok (.sastore, 1) := by decide +kernel
theorem dX13_enter_209 : decode cX13_enter 209 = .ok (.iinc 7 1, 3) := by decide +kernel
theorem dX13_enter_212 : decode cX13_enter 212 = .ok (.iinc 4 1, 3) := by decide +kernel
theorem dX13_enter_215 : decode cX13_enter 215 = .ok (.goto (-156), 3) := by decide +kernel
theorem dX13_enter_218 : decode cX13_enter 218 = .ok (.iload 5, 2) := by decide +kernel
theorem dX13_enter_220 : decode cX13_enter 220 = .ok (.ifCond .ne 17, 3) := by decide +kernel
theorem dX13_enter_223 : decode cX13_enter 223 = .ok (.aload_n 0, 1) := by decide +kernel
theorem dX13_enter_224 : decode cX13_enter 224 = .ok (.getfield 41, 3) := by decide +kernel
theorem dX13_enter_227 : decode cX13_enter 227 = .ok (.iload_n 3, 1) := by decide +kernel
theorem dX13_enter_228 : decode cX13_enter 228 = .ok (.iload 4, 2) := by decide +kernel
theorem dX13_enter_230 : decode cX13_enter 230 = .ok (.sipush 512, 3) := by decide +kernel
theorem dX13_enter_233 : decode cX13_enter 233 = .ok (.invokestatic 241, 3) := by decide +kernel
theorem dX13_enter_236 : decode cX13_enter 236 = .ok (.iastore, 1) := by decide +kernel
theorem dX13_enter_237 : decode cX13_enter 237 = .ok (.aload_n 0, 1) := by decide +kernel
theorem dX13_enter_238 : decode cX13_enter 238 = .ok (.getfield 44, 3) := by decide +kernel
theorem dX13_enter_241 : decode cX13_enter 241 = .ok (.iload_n 3, 1) := by decide +kernel
theorem dX13_enter_242 : decode cX13_enter 242 = .ok (.iload 5, 2) := by decide +kernel
theorem dX13_enter_244 : decode cX13_enter 244 = .ok (.ifCond .eq 12, 3) := by decide +kernel
theorem dX13_enter_247 : decode cX13_enter 247 = .ok (.iload 4, 2) := by decide +kernel
theorem dX13_enter_249 : decode cX13_enter 249 = .ok (.sipush 512, 3) := by decide +kernel
theorem dX13_enter_252 : decode cX13_enter 252 = .ok (.isub, 1) := by decide +kernel
theorem dX13_enter_253 : decode cX13_enter 253 = .ok (.goto 4, 3) := by decide +kernel
theorem dX13_enter_256 : decode cX13_enter 256 = .ok (.iconst 0, 1) := by decide +kernel
theorem dX13_enter_257 : decode cX13_enter 257 = .ok (.iastore, 1) := by decide +kernel
theorem dX13_enter_258 : decode cX13_enter 258 = .ok (.aload_n 0, 1) := by decide +kernel
theorem dX13_enter_259 : decode cX13_enter 259 = .ok (.dup, 1) := by decide +kernel
theorem dX13_enter_260 : decode cX13_enter 260 = .ok (.getfield 222, 3) := by decide +kernel
theorem dX13_enter_263 : decode cX13_enter 263 = .ok (.iconst 1, 1) := by decide +kernel
theorem dX13_enter_264 : decode cX13_enter 264 = .ok (.iadd, 1) := by decide +kernel
theorem dX13_enter_265 : decode cX13_enter 265 = .ok (.putfield 222, 3) := by decide +kernel
theorem dX13_enter_268 : decode cX13_enter 268 = .ok (.aload_n 0, 1) := by decide +kernel
theorem dX13_enter_269 : decode cX13_enter 269 = .ok (.getfield 29, 3) := by decide +kernel
theorem dX13_enter_272 : decode cX13_enter 272 = .ok (.iload_n 3, 1) := by decide +kernel
theorem dX13_enter_273 : decode cX13_enter 273 = .ok (.iconst 1, 1) := by decide +kernel
theorem dX13_enter_274 : decode cX13_enter 274 = .ok (.bastore, 1) := by decide +kernel
theorem dX13_enter_275 : decode cX13_enter 275 = .ok (.iload 6, 2) := by decide +kernel
theorem dX13_enter_277 : decode cX13_enter 277 = .ok (.ifCond .ne 12, 3) := by decide +kernel
theorem dX13_enter_280 : decode cX13_enter 280 = .ok (.aload_n 0, 1) := by decide +kernel
theorem dX13_enter_281 : decode cX13_enter 281 = .ok (.invokevirtual 246, 3) := by decide +kernel
theorem dX13_enter_284 : decode cX13_enter 284 = .ok (.ldc 63, 2) := by decide +kernel
theorem dX13_enter_286 : decode cX13_enter 286 = .ok (.if_icmp .le 64, 3) := by decide +kernel
theorem dX13_enter_289 : decode cX13_enter 289 = .ok (.aload_n 0, 1) := by decide +kernel
theorem dX13_enter_290 : decode cX13_enter 290 = .ok (.dup, 1) := by decide +kernel
theorem dX13_enter_291 : decode cX13_enter 291 = .ok (.getfield 222, 3) := by decide +kernel
theorem dX13_enter_294 : decode cX13_enter 294 = .ok (.iconst 1, 1) := by decide +kernel
theorem dX13_enter_295 : decode cX13_enter 295 = .ok (.isub, 1) := by decide +kernel
theorem dX13_enter_296 : decode cX13_enter 296 = .ok (.putfield 222, 3) := by decide +kernel
theorem dX13_enter_299 : decode cX13_enter 299 = .ok (.aload_n 0, 1) := by decide +kernel
theorem dX13_enter_300 : decode cX13_enter 300 = .ok (.getfield 29, 3) := by decide +kernel
theorem dX13_enter_303 : decode cX13_enter 303 = .ok (.iload_n 3, 1) := by decide +kernel
theorem dX13_enter_304 : decode cX13_enter 304 = .ok (.iconst 0, 1) := by decide +kernel
theorem dX13_enter_305 : decode cX13_enter 305 = .ok (.bastore, 1) := by decide +kernel
theorem dX13_enter_306 : decode cX13_enter 306 = .ok (.iconst 0, 1) := by decide +kernel
theorem dX13_enter_307 : decode cX13_enter 307 = .ok (.istore 8, 2) := by decide +kernel
theorem dX13_enter_309 : decode cX13_enter 309 = .ok (.iload 8, 2) := by decide +kernel
theorem dX13_enter_311 : decode cX13_enter 311 = .ok (.sipush 1024, 3) := by decide +kernel
theorem dX13_enter_314 : decode cX13_enter 314 = .ok (.if_icmp .ge 23, 3) := by decide +kernel
theorem dX13_enter_317 : decode cX13_enter 317 = .ok (.aload_n 0, 1) := by decide +kernel
theorem dX13_enter_318 : decode cX13_enter 318 = .ok (.getfield 21, 3) := by decide +kernel
theorem dX13_enter_321 : decode cX13_enter 321 = .ok (.sipush 1024, 3) := by decide +kernel
theorem dX13_enter_324 : decode cX13_enter 324 = .ok (.iload_n 3, 1) := by decide +kernel
theorem dX13_enter_325 : decode cX13_enter 325 = .ok (.imul, 1) := by decide +kernel
theorem dX13_enter_326 : decode cX13_enter 326 = .ok (.iload 8, 2) := by decide +kernel
theorem dX13_enter_328 : decode cX13_enter 328 = .ok (.iadd, 1) := by decide +kernel
theorem dX13_enter_329 : decode cX13_enter 329 = .ok (.iconst 0, 1) := by decide +kernel
theorem dX13_enter_330 : decode cX13_enter 330 = .ok (.sastore, 1) := by decide +kernel
theorem dX13_enter_331 : decode cX13_enter 331 = .ok (.iinc 8 1, 3) := by decide +kernel
theorem dX13_enter_334 : decode cX13_enter 334 = .ok (.goto (-25), 3) := by decide +kernel
theorem dX13_enter_337 : decode cX13_enter 337 = .ok (.aload_n 0, 1) := by decide +kernel
theorem dX13_enter_338 : decode cX13_enter 338 = .ok (.iload_n 2, 1) := by decide +kernel
theorem dX13_enter_339 : decode cX13_enter 339 = .ok (.putfield 208, 3) := by decide +kernel
theorem dX13_enter_342 : decode cX13_enter 342 = .ok (.aload_n 0, 1) := by decide +kernel
theorem dX13_enter_343 : decode cX13_enter 343 = .ok (.iconst 0, 1) := by decide +kernel
theorem dX13_enter_344 : decode cX13_enter 344 = .ok (.putfield 249, 3) := by decide +kernel
theorem dX13_enter_347 : decode cX13_enter 347 = .ok (.bipush (-2), 2) := by decide +kernel
theorem dX13_enter_349 : decode cX13_enter 349 = .ok (.ireturn, 1) := by decide +kernel
theorem dX13_enter_350 : decode cX13_enter 350 = .ok (.aload_n 0, 1) := by decide +kernel
theorem dX13_enter_351 : decode cX13_enter 351 = .ok (.getfield 25, 3) := by decide +kernel
theorem dX13_enter_354 : decode cX13_enter 354 = .ok (.iload_n 3, 1) := by decide +kernel
theorem dX13_enter_355 : decode cX13_enter 355 = .ok (.iconst 1, 1) := by decide +kernel
theorem dX13_enter_356 : decode cX13_enter 356 = .ok (.bastore, 1) := by decide +kernel
theorem dX13_enter_357 : decode cX13_enter 357 = .ok (.aload_n 0, 1) := by decide +kernel
theorem dX13_enter_358 : decode cX13_enter 358 = .ok (.getfield 32, 3) := by decide +kernel
theorem dX13_enter_361 : decode cX13_enter 361 = .ok (.iload_n 3, 1) := by decide +kernel
theorem dX13_enter_362 : decode cX13_enter 362 = .ok (.iload 7, 2) := by decide +kernel
theorem dX13_enter_364 : decode cX13_enter 364 = .ok (.iastore, 1) := by decide +kernel
theorem dX13_enter_365 : decode cX13_enter 365 = .ok (.aload_n 0, 1) := by decide +kernel
theorem dX13_enter_366 : decode cX13_enter 366 = .ok (.getfield 35, 3) := by decide +kernel
theorem dX13_enter_369 : decode cX13_enter 369 = .ok (.iload_n 3, 1) := by decide +kernel
theorem dX13_enter_370 : decode cX13_enter 370 = .ok (.iconst 0, 1) := by decide +kernel
theorem dX13_enter_371 : decode cX13_enter 371 = .ok (.iastore, 1) := by decide +kernel
theorem dX13_enter_372 : decode cX13_enter 372 = .ok (.aload_n 0, 1) := by decide +kernel
theorem dX13_enter_373 : decode cX13_enter 373 = .ok (.getfield 38, 3) := by decide +kernel
theorem dX13_enter_376 : decode cX13_enter 376 = .ok (.iload_n 3, 1) := by decide +kernel
theorem dX13_enter_377 : decode cX13_enter 377 = .ok (.aload_n 0, 1) := by decide +kernel
theorem dX13_enter_378 : decode cX13_enter 378 = .ok (.iload_n 3, 1) := by decide +kernel
theorem dX13_enter_379 : decode cX13_enter 379 = .ok (.invokevirtual 253, 3) := by decide +kernel
theorem dX13_enter_382 : decode cX13_enter 382 = .ok (.iastore, 1) := by decide +kernel
theorem dX13_enter_383 : decode cX13_enter 383 = .ok (.iload_n 3, 1) := by decide +kernel
theorem dX13_enter_384 : decode cX13_enter 384 = .ok (.ireturn, 1) := by decide +kernel
theorem dX13_newWord_0 : decode cX13_newWord 0 = .ok (.iconst 0, 1) := by decide +kernel
theorem dX13_newWord_1 : decode cX13_newWord 1 = .ok (.istore_n 1, 1) := by decide +kernel
theorem dX13_newWord_2 : decode cX13_newWord 2 = .ok (.iload_n 1, 1) := by decide +kernel
theorem dX13_newWord_3 : decode cX13_newWord 3 = .ok (.aload_n 0, 1) := by decide +kernel
theorem dX13_newWord_4 : decode cX13_newWord 4 = .ok (.getfield 193, 3) := by decide +kernel
theorem dX13_newWord_7 : decode cX13_newWord 7 = .ok (.if_icmp .ge 29, 3) := by decide +kernel
theorem dX13_newWord_10 : decode cX13_newWord 10 = .ok (.aload_n 0, 1) := by decide +kernel
theorem dX13_newWord_11 : decode cX13_newWord 11 = .ok (.getfield 13, 3) := by decide +kernel
theorem dX13_newWord_14 : decode cX13_newWord 14 = .ok (.bipush 12, 2) := by decide +kernel
theorem dX13_newWord_16 : decode cX13_newWord 16 = .ok (.aload_n 0, 1) := by decide +kernel
theorem dX13_newWord_17 : decode cX13_newWord 17 = .ok (.getfield 208, 3) := by decide +kernel
theorem dX13_newWord_20 : decode cX13_newWord 20 = .ok (.imul, 1) := by decide +kernel
theorem dX13_newWord_21 : decode cX13_newWord 21 = .ok (.iload_n 1, 1) := by decide +kernel
theorem dX13_newWord_22 : decode cX13_newWord 22 = .ok (.iadd, 1) := by decide +kernel
theorem dX13_newWord_23 : decode cX13_newWord 23 = .ok (.aload_n 0, 1) := by decide +kernel
theorem dX13_newWord_24 : decode cX13_newWord 24 = .ok (.getfield 60, 3) := by decide +kernel
theorem dX13_newWord_27 : decode cX13_newWord 27 = .ok (.iload_n 1, 1) := by decide +kernel
theorem dX13_newWord_28 : decode cX13_newWord 28 = .ok (.baload, 1) := by decide +kernel
theorem dX13_newWord_29 : decode cX13_newWord 29 = .ok (.bastore, 1) := by decide +kernel
theorem dX13_newWord_30 : decode cX13_newWord 30 = .ok (.iinc 1 1, 3) := by decide +kernel
theorem dX13_newWord_33 : decode cX13_newWord 33 = .ok (.goto (-31), 3) := by decide +kernel
theorem dX13_newWord_36 : decode cX13_newWord 36 = .ok (.aload_n 0, 1) := by decide +kernel
theorem dX13_newWord_37 : decode cX13_newWord 37 = .ok (.getfield 16, 3) := by decide +kernel
theorem dX13_newWord_40 : decode cX13_newWord 40 = .ok (.aload_n 0, 1) := by decide +kernel
theorem dX13_newWord_41 : decode cX13_newWord 41 = .ok (.getfield 208, 3) := by decide +kernel
theorem dX13_newWord_44 : decode cX13_newWord 44 = .ok (.aload_n 0, 1) := by decide +kernel
theorem dX13_newWord_45 : decode cX13_newWord 45 = .ok (.getfield 193, 3) := by decide +kernel
theorem dX13_newWord_48 : decode cX13_newWord 48 = .ok (.iastore, 1) := by decide +kernel
theorem dX13_newWord_49 : decode cX13_newWord 49 = .ok (.aload_n 0, 1) := by decide +kernel
theorem dX13_newWord_50 : decode cX13_newWord 50 = .ok (.dup, 1) := by decide +kernel
theorem dX13_newWord_51 : decode cX13_newWord 51 = .ok (.getfield 208, 3) := by decide +kernel
theorem dX13_newWord_54 : decode cX13_newWord 54 = .ok (.iconst 1, 1) := by decide +kernel
theorem dX13_newWord_55 : decode cX13_newWord 55 = .ok (.iadd, 1) := by decide +kernel
theorem dX13_newWord_56 : decode cX13_newWord 56 = .ok (.putfield 208, 3) := by decide +kernel
theorem dX13_newWord_59 : decode cX13_newWord 59 = .ok (.aload_n 0, 1) := by decide +kernel
theorem dX13_newWord_60 : decode cX13_newWord 60 = .ok (.iconst 0, 1) := by decide +kernel
theorem dX13_newWord_61 : decode cX13_newWord 61 = .ok (.putfield 249, 3) := by decide +kernel
theorem dX13_newWord_64 : decode cX13_newWord 64 = .ok (.aload_n 0, 1) := by decide +kernel
theorem dX13_newWord_65 : decode cX13_newWord 65 = .ok (.getfield 208, 3) := by decide +kernel
theorem dX13_newWord_68 : decode cX13_newWord 68 = .ok (.iconst 1, 1) := by decide +kernel
theorem dX13_newWord_69 : decode cX13_newWord 69 = .ok (.isub, 1) := by decide +kernel
theorem dX13_newWord_70 : decode cX13_newWord 70 = .ok (.ireturn, 1) := by decide +kernel
theorem dX13_countUnlike_0 : decode cX13_countUnlike 0 = .ok (.aload_n 0, 1) := by decide +kernel
theorem dX13_countUnlike_1 : decode cX13_countUnlike 1 = .ok (.iload_n 1, 1) := by decide +kernel
theorem dX13_countUnlike_2 : decode cX13_countUnlike 2 = .ok (.aload_n 0, 1) := by decide +kernel
theorem dX13_countUnlike_3 : decode cX13_countUnlike 3 = .ok (.getfield 76, 3) := by decide +kernel
theorem dX13_countUnlike_6 : decode cX13_countUnlike 6 = .ok (.invokevirtual 256, 3) := by decide +kernel
theorem dX13_countUnlike_9 : decode cX13_countUnlike 9 = .ok (.iconst 0, 1) := by decide +kernel
theorem dX13_countUnlike_10 : decode cX13_countUnlike 10 = .ok (.istore_n 2, 1) := by decide +kernel
theorem dX13_countUnlike_11 : decode cX13_countUnlike 11 = .ok (.iconst 0, 1) := by decide +kernel
theorem dX13_countUnlike_12 : decode cX13_countUnlike 12 = .ok (.istore_n 3, 1) := by decide +kernel
theorem dX13_countUnlike_13 : decode cX13_countUnlike 13 = .ok (.iload_n 3, 1) := by decide +kernel
theorem dX13_countUnlike_14 : decode cX13_countUnlike 14 = .ok (.aload_n 0, 1) := by decide +kernel
theorem dX13_countUnlike_15 : decode cX13_countUnlike 15 = .ok (.getfield 208, 3) := by decide +kernel
theorem dX13_countUnlike_18 : decode cX13_countUnlike 18 = .ok (.if_icmp .ge 26, 3) := by decide +kernel
theorem dX13_countUnlike_21 : decode cX13_countUnlike 21 = .ok (.iload_n 2, 1) := by decide +kernel
theorem dX13_countUnlike_22 : decode cX13_countUnlike 22 = .ok (.aload_n 0, 1) := by decide +kernel
theorem dX13_countUnlike_23 : decode cX13_countUnlike 23 = .ok (.getfield 76, 3) := by decide +kernel
theorem dX13_countUnlike_26 : decode cX13_countUnlike 26 = .ok (.iload_n 3, 1) := by decide +kernel
theorem dX13_countUnlike_27 : decode cX13_countUnlike 27 = .ok (.iaload, 1) := by decide +kernel
theorem dX13_countUnlike_28 : decode cX13_countUnlike 28 = .ok (.ifCond .le 7, 3) := by decide +kernel
theorem dX13_countUnlike_31 : decode cX13_countUnlike 31 = .ok (.iconst 1, 1) := by decide +kernel
theorem dX13_countUnlike_32 : decode cX13_countUnlike 32 = .ok (.goto 4, 3) := by decide +kernel
theorem dX13_countUnlike_35 : decode cX13_countUnlike 35 = .ok (.iconst 0, 1) := by decide +kernel
theorem dX13_countUnlike_36 : decode cX13_countUnlike 36 = .ok (.iadd, 1) := by decide +kernel
theorem dX13_countUnlike_37 : decode cX13_countUnlike 37 = .ok (.istore_n 2, 1) := by decide +kernel
theorem dX13_countUnlike_38 : decode cX13_countUnlike 38 = .ok (.iinc 3 1, 3) := by decide +kernel
theorem dX13_countUnlike_41 : decode cX13_countUnlike 41 = .ok (.goto (-28), 3) := by decide +kernel
theorem dX13_countUnlike_44 : decode cX13_countUnlike 44 = .ok (.iload_n 2, 1) := by decide +kernel
theorem dX13_countUnlike_45 : decode cX13_countUnlike 45 = .ok (.ireturn, 1) := by decide +kernel
theorem dX13_timesOf_0 : decode cX13_timesOf 0 = .ok (.iconst 0, 1) := by decide +kernel
theorem dX13_timesOf_1 : decode cX13_timesOf 1 = .ok (.istore_n 3, 1) := by decide +kernel
theorem dX13_timesOf_2 : decode cX13_timesOf 2 = .ok (.iconst 0, 1) := by decide +kernel
theorem dX13_timesOf_3 : decode cX13_timesOf 3 = .ok (.istore 4, 2) := by decide +kernel
theorem dX13_timesOf_5 : decode cX13_timesOf 5 = .ok (.iload 4, 2) := by decide +kernel
theorem dX13_timesOf_7 : decode cX13_timesOf 7 = .ok (.aload_n 0, 1) := by decide +kernel
theorem dX13_timesOf_8 : decode cX13_timesOf 8 = .ok (.getfield 41, 3) := by decide +kernel
theorem dX13_timesOf_11 : decode cX13_timesOf 11 = .ok (.iload_n 1, 1) := by decide +kernel
theorem dX13_timesOf_12 : decode cX13_timesOf 12 = .ok (.iaload, 1) := by decide +kernel
theorem dX13_timesOf_13 : decode cX13_timesOf 13 = .ok (.if_icmp .ge 36, 3) := by decide +kernel
theorem dX13_timesOf_16 : decode cX13_timesOf 16 = .ok (.iload_n 3, 1) := by decide +kernel
theorem dX13_timesOf_17 : decode cX13_timesOf 17 = .ok (.aload_n 0, 1) := by decide +kernel
theorem dX13_timesOf_18 : decode cX13_timesOf 18 = .ok (.getfield 21, 3) := by decide +kernel
theorem dX13_timesOf_21 : decode cX13_timesOf 21 = .ok (.sipush 1024, 3) := by decide +kernel
theorem dX13_timesOf_24 : decode cX13_timesOf 24 = .ok (.iload_n 1, 1) := by decide +kernel
theorem dX13_timesOf_25 : decode cX13_timesOf 25 = .ok (.imul, 1) := by decide +kernel
theorem dX13_timesOf_26 : decode cX13_timesOf 26 = .ok (.iload 4, 2) := by decide +kernel
theorem dX13_timesOf_28 : decode cX13_timesOf 28 = .ok (.iadd, 1) := by decide +kernel
theorem dX13_timesOf_29 : decode cX13_timesOf 29 = .ok (.saload, 1) := by decide +kernel
theorem dX13_timesOf_30 : decode cX13_timesOf 30 = .ok (.iload_n 2, 1) := by decide +kernel
theorem dX13_timesOf_31 : decode cX13_timesOf 31 = .ok (.iconst 1, 1) := by decide +kernel
theorem dX13_timesOf_32 : decode cX13_timesOf 32 = .ok (.iadd, 1) := by decide +kernel
theorem dX13_timesOf_33 : decode cX13_timesOf 33 = .ok (.if_icmp .ne 7, 3) := by decide +kernel
theorem dX13_timesOf_36 : decode cX13_timesOf 36 = .ok (.iconst 1, 1) := by decide +kernel
theorem dX13_timesOf_37 : decode cX13_timesOf 37 = .ok (.goto 4, 3) := by decide +kernel
theorem dX13_timesOf_40 : decode cX13_timesOf 40 = .ok (.iconst 0, 1) := by decide +kernel
theorem dX13_timesOf_41 : decode cX13_timesOf 41 = .ok (.iadd, 1) := by decide +kernel
theorem dX13_timesOf_42 : decode cX13_timesOf 42 = .ok (.istore_n 3, 1) := by decide +kernel
theorem dX13_timesOf_43 : decode cX13_timesOf 43 = .ok (.iinc 4 1, 3) := by decide +kernel
theorem dX13_timesOf_46 : decode cX13_timesOf 46 = .ok (.goto (-41), 3) := by decide +kernel
theorem dX13_timesOf_49 : decode cX13_timesOf 49 = .ok (.sipush 512, 3) := by decide +kernel
theorem dX13_timesOf_52 : decode cX13_timesOf 52 = .ok (.istore 4, 2) := by decide +kernel
theorem dX13_timesOf_54 : decode cX13_timesOf 54 = .ok (.iload 4, 2) := by decide +kernel
theorem dX13_timesOf_56 : decode cX13_timesOf 56 = .ok (.sipush 512, 3) := by decide +kernel
theorem dX13_timesOf_59 : decode cX13_timesOf 59 = .ok (.aload_n 0, 1) := by decide +kernel
theorem dX13_timesOf_60 : decode cX13_timesOf 60 = .ok (.getfield 44, 3) := by decide +kernel
theorem dX13_timesOf_63 : decode cX13_timesOf 63 = .ok (.iload_n 1, 1) := by decide +kernel
theorem dX13_timesOf_64 : decode cX13_timesOf 64 = .ok (.iaload, 1) := by decide +kernel
theorem dX13_timesOf_65 : decode cX13_timesOf 65 = .ok (.iadd, 1) := by decide +kernel
theorem dX13_timesOf_66 : decode cX13_timesOf 66 = .ok (.if_icmp .ge 36, 3) := by decide +kernel
theorem dX13_timesOf_69 : decode cX13_timesOf 69 = .ok (.iload_n 3, 1) := by decide +kernel
theorem dX13_timesOf_70 : decode cX13_timesOf 70 = .ok (.aload_n 0, 1) := by decide +kernel
theorem dX13_timesOf_71 : decode cX13_timesOf 71 = .ok (.getfield 21, 3) := by decide +kernel
theorem dX13_timesOf_74 : decode cX13_timesOf 74 = .ok (.sipush 1024, 3) := by decide +kernel
theorem dX13_timesOf_77 : decode cX13_timesOf 77 = .ok (.iload_n 1, 1) := by decide +kernel
theorem dX13_timesOf_78 : decode cX13_timesOf 78 = .ok (.imul, 1) := by decide +kernel
theorem dX13_timesOf_79 : decode cX13_timesOf 79 = .ok (.iload 4, 2) := by decide +kernel
theorem dX13_timesOf_81 : decode cX13_timesOf 81 = .ok (.iadd, 1) := by decide +kernel
theorem dX13_timesOf_82 : decode cX13_timesOf 82 = .ok (.saload, 1) := by decide +kernel
theorem dX13_timesOf_83 : decode cX13_timesOf 83 = .ok (.iload_n 2, 1) := by decide +kernel
theorem dX13_timesOf_84 : decode cX13_timesOf 84 = .ok (.iconst 1, 1) := by decide +kernel
theorem dX13_timesOf_85 : decode cX13_timesOf 85 = .ok (.iadd, 1) := by decide +kernel
theorem dX13_timesOf_86 : decode cX13_timesOf 86 = .ok (.if_icmp .ne 7, 3) := by decide +kernel
theorem dX13_timesOf_89 : decode cX13_timesOf 89 = .ok (.iconst 1, 1) := by decide +kernel
theorem dX13_timesOf_90 : decode cX13_timesOf 90 = .ok (.goto 4, 3) := by decide +kernel
theorem dX13_timesOf_93 : decode cX13_timesOf 93 = .ok (.iconst 0, 1) := by decide +kernel
theorem dX13_timesOf_94 : decode cX13_timesOf 94 = .ok (.iadd, 1) := by decide +kernel
theorem dX13_timesOf_95 : decode cX13_timesOf 95 = .ok (.istore_n 3, 1) := by decide +kernel
theorem dX13_timesOf_96 : decode cX13_timesOf 96 = .ok (.iinc 4 1, 3) := by decide +kernel
theorem dX13_timesOf_99 : decode cX13_timesOf 99 = .ok (.goto (-45), 3) := by decide +kernel
theorem dX13_timesOf_102 : decode cX13_timesOf 102 = .ok (.iload_n 3, 1) := by decide +kernel
theorem dX13_timesOf_103 : decode cX13_timesOf 103 = .ok (.ireturn, 1) := by decide +kernel
theorem dX13_isThere_0 : decode cX13_isThere 0 = .ok (.iload_n 1, 1) := by decide +kernel
theorem dX13_isThere_1 : decode cX13_isThere 1 = .ok (.ifCond .lt 15, 3) := by decide +kernel
theorem dX13_isThere_4 : decode cX13_isThere 4 = .ok (.iload_n 1, 1) := by decide +kernel
theorem dX13_isThere_5 : decode cX13_isThere 5 = .ok (.aload_n 0, 1) := by decide +kernel
theorem dX13_isThere_6 : decode cX13_isThere 6 = .ok (.getfield 222, 3) := by decide +kernel
theorem dX13_isThere_9 : decode cX13_isThere 9 = .ok (.if_icmp .ge 7, 3) := by decide +kernel
theorem dX13_isThere_12 : decode cX13_isThere 12 = .ok (.iconst 1, 1) := by decide +kernel
theorem dX13_isThere_13 : decode cX13_isThere 13 = .ok (.goto 4, 3) := by decide +kernel
theorem dX13_isThere_16 : decode cX13_isThere 16 = .ok (.iconst 0, 1) := by decide +kernel
theorem dX13_isThere_17 : decode cX13_isThere 17 = .ok (.ireturn, 1) := by decide +kernel
theorem dX13_stands_0 : decode cX13_stands 0 = .ok (.aload_n 0, 1) := by decide +kernel
theorem dX13_stands_1 : decode cX13_stands 1 = .ok (.iload_n 1, 1) := by decide +kernel
theorem dX13_stands_2 : decode cX13_stands 2 = .ok (.invokevirtual 260, 3) := by decide +kernel
theorem dX13_stands_5 : decode cX13_stands 5 = .ok (.ifCond .eq 16, 3) := by decide +kernel
theorem dX13_stands_8 : decode cX13_stands 8 = .ok (.aload_n 0, 1) := by decide +kernel
theorem dX13_stands_9 : decode cX13_stands 9 = .ok (.getfield 25, 3) := by decide +kernel
theorem dX13_stands_12 : decode cX13_stands 12 = .ok (.iload_n 1, 1) := by decide +kernel
theorem dX13_stands_13 : decode cX13_stands 13 = .ok (.baload, 1) := by decide +kernel
theorem dX13_stands_14 : decode cX13_stands 14 = .ok (.ifCond .eq 7, 3) := by decide +kernel
theorem dX13_stands_17 : decode cX13_stands 17 = .ok (.iconst 1, 1) := by decide +kernel
theorem dX13_stands_18 : decode cX13_stands 18 = .ok (.goto 4, 3) := by decide +kernel
theorem dX13_stands_21 : decode cX13_stands 21 = .ok (.iconst 0, 1) := by decide +kernel
theorem dX13_stands_22 : decode cX13_stands 22 = .ok (.ireturn, 1) := by decide +kernel
theorem dX13_remove_0 : decode cX13_remove 0 = .ok (.aload_n 0, 1) := by decide +kernel
theorem dX13_remove_1 : decode cX13_remove 1 = .ok (.iconst 0, 1) := by decide +kernel
theorem dX13_remove_2 : decode cX13_remove 2 = .ok (.putfield 170, 3) := by decide +kernel
theorem dX13_remove_5 : decode cX13_remove 5 = .ok (.aload_n 0, 1) := by decide +kernel
theorem dX13_remove_6 : decode cX13_remove 6 = .ok (.iload_n 1, 1) := by decide +kernel
theorem dX13_remove_7 : decode cX13_remove 7 = .ok (.invokevirtual 263, 3) := by decide +kernel
theorem dX13_remove_10 : decode cX13_remove 10 = .ok (.ifCond .ne 5, 3) := by decide +kernel
theorem dX13_remove_13 : decode cX13_remove 13 = .ok (.iconst 0, 1) := by decide +kernel
theorem dX13_remove_14 : decode cX13_remove 14 = .ok (.ireturn, 1) := by decide +kernel
theorem dX13_remove_15 : decode cX13_remove 15 = .ok (.aload_n 0, 1) := by decide +kernel
theorem dX13_remove_16 : decode cX13_remove 16 = .ok (.getfield 25, 3) := by decide +kernel
theorem dX13_remove_19 : decode cX13_remove 19 = .ok (.iload_n 1, 1) := by decide +kernel
theorem dX13_remove_20 : decode cX13_remove 20 = .ok (.iconst 0, 1) := by decide +kernel
theorem dX13_remove_21 : decode cX13_remove 21 = .ok (.bastore, 1) := by decide +kernel
theorem dX13_remove_22 : decode cX13_remove 22 = .ok (.iconst 1, 1) := by decide +kernel
theorem dX13_remove_23 : decode cX13_remove 23 = .ok (.ireturn, 1) := by decide +kernel
theorem dX13_mark_0 : decode cX13_mark 0 = .ok (.aload_n 0, 1) := by decide +kernel
theorem dX13_mark_1 : decode cX13_mark 1 = .ok (.iconst 0, 1) := by decide +kernel
theorem dX13_mark_2 : decode cX13_mark 2 = .ok (.putfield 170, 3) := by decide +kernel
theorem dX13_mark_5 : decode cX13_mark 5 = .ok (.aload_n 0, 1) := by decide +kernel
theorem dX13_mark_6 : decode cX13_mark 6 = .ok (.iload_n 1, 1) := by decide +kernel
theorem dX13_mark_7 : decode cX13_mark 7 = .ok (.invokevirtual 263, 3) := by decide +kernel
theorem dX13_mark_10 : decode cX13_mark 10 = .ok (.ifCond .ne 5, 3) := by decide +kernel
theorem dX13_mark_13 : decode cX13_mark 13 = .ok (.iconst 0, 1) := by decide +kernel
theorem dX13_mark_14 : decode cX13_mark 14 = .ok (.ireturn, 1) := by decide +kernel
theorem dX13_mark_15 : decode cX13_mark 15 = .ok (.aload_n 0, 1) := by decide +kernel
theorem dX13_mark_16 : decode cX13_mark 16 = .ok (.getfield 35, 3) := by decide +kernel
theorem dX13_mark_19 : decode cX13_mark 19 = .ok (.iload_n 1, 1) := by decide +kernel
theorem dX13_mark_20 : decode cX13_mark 20 = .ok (.iload_n 2, 1) := by decide +kernel
theorem dX13_mark_21 : decode cX13_mark 21 = .ok (.iastore, 1) := by decide +kernel
theorem dX13_mark_22 : decode cX13_mark 22 = .ok (.iconst 1, 1) := by decide +kernel
theorem dX13_mark_23 : decode cX13_mark 23 = .ok (.ireturn, 1) := by decide +kernel
theorem dX13_tidy_0 : decode cX13_tidy 0 = .ok (.aload_n 0, 1) := by decide +kernel
theorem dX13_tidy_1 : decode cX13_tidy 1 = .ok (.iconst 0, 1) := by decide +kernel
theorem dX13_tidy_2 : decode cX13_tidy 2 = .ok (.putfield 170, 3) := by decide +kernel
theorem dX13_tidy_5 : decode cX13_tidy 5 = .ok (.aload_n 0, 1) := by decide +kernel
theorem dX13_tidy_6 : decode cX13_tidy 6 = .ok (.invokevirtual 246, 3) := by decide +kernel
theorem dX13_tidy_9 : decode cX13_tidy 9 = .ok (.istore_n 1, 1) := by decide +kernel
theorem dX13_tidy_10 : decode cX13_tidy 10 = .ok (.iconst 0, 1) := by decide +kernel
theorem dX13_tidy_11 : decode cX13_tidy 11 = .ok (.istore_n 2, 1) := by decide +kernel
theorem dX13_tidy_12 : decode cX13_tidy 12 = .ok (.iload_n 2, 1) := by decide +kernel
theorem dX13_tidy_13 : decode cX13_tidy 13 = .ok (.aload_n 0, 1) := by decide +kernel
theorem dX13_tidy_14 : decode cX13_tidy 14 = .ok (.getfield 222, 3) := by decide +kernel
theorem dX13_tidy_17 : decode cX13_tidy 17 = .ok (.if_icmp .ge 65, 3) := by decide +kernel
theorem dX13_tidy_20 : decode cX13_tidy 20 = .ok (.aload_n 0, 1) := by decide +kernel
theorem dX13_tidy_21 : decode cX13_tidy 21 = .ok (.getfield 25, 3) := by decide +kernel
theorem dX13_tidy_24 : decode cX13_tidy 24 = .ok (.iload_n 2, 1) := by decide +kernel
theorem dX13_tidy_25 : decode cX13_tidy 25 = .ok (.baload, 1) := by decide +kernel
theorem dX13_tidy_26 : decode cX13_tidy 26 = .ok (.ifCond .ne 50, 3) := by decide +kernel
theorem dX13_tidy_29 : decode cX13_tidy 29 = .ok (.aload_n 0, 1) := by decide +kernel
theorem dX13_tidy_30 : decode cX13_tidy 30 = .ok (.getfield 29, 3) := by decide +kernel
theorem dX13_tidy_33 : decode cX13_tidy 33 = .ok (.iload_n 2, 1) := by decide +kernel
theorem dX13_tidy_34 : decode cX13_tidy 34 = .ok (.baload, 1) := by decide +kernel
theorem dX13_tidy_35 : decode cX13_tidy 35 = .ok (.ifCond .ne 6, 3) := by decide +kernel
theorem dX13_tidy_38 : decode cX13_tidy 38 = .ok (.goto 38, 3) := by decide +kernel
theorem dX13_tidy_41 : decode cX13_tidy 41 = .ok (.aload_n 0, 1) := by decide +kernel
theorem dX13_tidy_42 : decode cX13_tidy 42 = .ok (.getfield 29, 3) := by decide +kernel
theorem dX13_tidy_45 : decode cX13_tidy 45 = .ok (.iload_n 2, 1) := by decide +kernel
theorem dX13_tidy_46 : decode cX13_tidy 46 = .ok (.iconst 0, 1) := by decide +kernel
theorem dX13_tidy_47 : decode cX13_tidy 47 = .ok (.bastore, 1) := by decide +kernel
theorem dX13_tidy_48 : decode cX13_tidy 48 = .ok (.iconst 0, 1) := by decide +kernel
theorem dX13_tidy_49 : decode cX13_tidy 49 = .ok (.istore_n 3, 1) := by decide +kernel
theorem dX13_tidy_50 : decode cX13_tidy 50 = .ok (.iload_n 3, 1) := by decide +kernel
theorem dX13_tidy_51 : decode cX13_tidy 51 = .ok (.sipush 1024, 3) := by decide +kernel
theorem dX13_tidy_54 : decode cX13_tidy 54 = .ok (.if_icmp .ge 22, 3) := by decide +kernel
theorem dX13_tidy_57 : decode cX13_tidy 57 = .ok (.aload_n 0, 1) := by decide +kernel
theorem dX13_tidy_58 : decode cX13_tidy 58 = .ok (.getfield 21, 3) := by decide +kernel
theorem dX13_tidy_61 : decode cX13_tidy 61 = .ok (.sipush 1024, 3) := by decide +kernel
theorem dX13_tidy_64 : decode cX13_tidy 64 = .ok (.iload_n 2, 1) := by decide +kernel
theorem dX13_tidy_65 : decode cX13_tidy 65 = .ok (.imul, 1) := by decide +kernel
theorem dX13_tidy_66 : decode cX13_tidy 66 = .ok (.iload_n 3, 1) := by decide +kernel
theorem dX13_tidy_67 : decode cX13_tidy 67 = .ok (.iadd, 1) := by decide +kernel
theorem dX13_tidy_68 : decode cX13_tidy 68 = .ok (.iconst 0, 1) := by decide +kernel
theorem dX13_tidy_69 : decode cX13_tidy 69 = .ok (.sastore, 1) := by decide +kernel
theorem dX13_tidy_70 : decode cX13_tidy 70 = .ok (.iinc 3 1, 3) := by decide +kernel
theorem dX13_tidy_73 : decode cX13_tidy 73 = .ok (.goto (-23), 3) := by decide +kernel
theorem dX13_tidy_76 : decode cX13_tidy 76 = .ok (.iinc 2 1, 3) := by decide +kernel
theorem dX13_tidy_79 : decode cX13_tidy 79 = .ok (.goto (-67), 3) := by decide +kernel
theorem dX13_tidy_82 : decode cX13_tidy 82 = .ok (.iconst 0, 1) := by decide +kernel
theorem dX13_tidy_83 : decode cX13_tidy 83 = .ok (.istore_n 2, 1) := by decide +kernel
theorem dX13_tidy_84 : decode cX13_tidy 84 = .ok (.iload_n 2, 1) := by decide +kernel
theorem dX13_tidy_85 : decode cX13_tidy 85 = .ok (.aload_n 0, 1) := by decide +kernel
theorem dX13_tidy_86 : decode cX13_tidy 86 = .ok (.getfield 208, 3) := by decide +kernel
theorem dX13_tidy_89 : decode cX13_tidy 89 = .ok (.if_icmp .ge 16, 3) := by decide +kernel
theorem dX13_tidy_92 : decode cX13_tidy 92 = .ok (.aload_n 0, 1) := by decide +kernel
theorem dX13_tidy_93 : decode cX13_tidy 93 = .ok (.getfield 164, 3) := by decide +kernel
theorem dX13_tidy_96 : decode cX13_tidy 96 = .ok (.iload_n 2, 1) := by decide +kernel
theorem dX13_tidy_97 : decode cX13_tidy 97 = .ok (.iconst 0, 1) := by decide +kernel
theorem dX13_tidy_98 : decode cX13_tidy 98 = .ok (.iastore, 1) := by decide +kernel
theorem dX13_tidy_99 : decode cX13_tidy 99 = .ok (.iinc 2 1, 3) := by decide +kernel
theorem dX13_tidy_102 : decode cX13_tidy 102 = .ok (.goto (-18), 3) := by decide +kernel
theorem dX13_tidy_105 : decode cX13_tidy 105 = .ok (.iconst 0, 1) := by decide +kernel
theorem dX13_tidy_106 : decode cX13_tidy 106 = .ok (.istore_n 2, 1) := by decide +kernel
theorem dX13_tidy_107 : decode cX13_tidy 107 = .ok (.iload_n 2, 1) := by decide +kernel
theorem dX13_tidy_108 : decode cX13_tidy 108 = .ok (.sipush 1024, 3) := by decide +kernel
theorem dX13_tidy_111 : decode cX13_tidy 111 = .ok (.aload_n 0, 1) := by decide +kernel
theorem dX13_tidy_112 : decode cX13_tidy 112 = .ok (.getfield 222, 3) := by decide +kernel
theorem dX13_tidy_115 : decode cX13_tidy 115 = .ok (.imul, 1) := by decide +kernel
theorem dX13_tidy_116 : decode cX13_tidy 116 = .ok (.if_icmp .ge 35, 3) := by decide +kernel
theorem dX13_tidy_119 : decode cX13_tidy 119 = .ok (.aload_n 0, 1) := by decide +kernel
theorem dX13_tidy_120 : decode cX13_tidy 120 = .ok (.getfield 21, 3) := by decide +kernel
theorem dX13_tidy_123 : decode cX13_tidy 123 = .ok (.iload_n 2, 1) := by decide +kernel
theorem dX13_tidy_124 : decode cX13_tidy 124 = .ok (.saload, 1) := by decide +kernel
theorem dX13_tidy_125 : decode cX13_tidy 125 = .ok (.ifCond .le 20, 3) := by decide +kernel
theorem dX13_tidy_128 : decode cX13_tidy 128 = .ok (.aload_n 0, 1) := by decide +kernel
theorem dX13_tidy_129 : decode cX13_tidy 129 = .ok (.getfield 164, 3) := by decide +kernel
theorem dX13_tidy_132 : decode cX13_tidy 132 = .ok (.aload_n 0, 1) := by decide +kernel
theorem dX13_tidy_133 : decode cX13_tidy 133 = .ok (.getfield 21, 3) := by decide +kernel
theorem dX13_tidy_136 : decode cX13_tidy 136 = .ok (.iload_n 2, 1) := by decide +kernel
theorem dX13_tidy_137 : decode cX13_tidy 137 = .ok (.saload, 1) := by decide +kernel
theorem dX13_tidy_138 : decode cX13_tidy 138 = .ok (.iconst 1, 1) := by decide +kernel
theorem dX13_tidy_139 : decode cX13_tidy 139 = .ok (.isub, 1) := by decide +kernel
theorem dX13_tidy_140 : decode cX13_tidy 140 = .ok (.dup2, 1) := by decide +kernel
theorem dX13_tidy_141 : decode cX13_tidy 141 = .ok (.iaload, 1) := by decide +kernel
theorem dX13_tidy_142 : decode cX13_tidy 142 = .ok (.iconst 1, 1) := by decide +kernel
theorem dX13_tidy_143 : decode cX13_tidy 143 = .ok (.iadd, 1) := by decide +kernel
theorem dX13_tidy_144 : decode cX13_tidy 144 = .ok (.iastore, 1) := by decide +kernel
theorem dX13_tidy_145 : decode cX13_tidy 145 = .ok (.iinc 2 1, 3) := by decide +kernel
theorem dX13_tidy_148 : decode cX13_tidy 148 = .ok (.goto (-41), 3) := by decide +kernel
theorem dX13_tidy_151 : decode cX13_tidy 151 = .ok (.iconst 0, 1) := by decide +kernel
theorem dX13_tidy_152 : decode cX13_tidy 152 = .ok (.istore_n 2, 1) := by decide +kernel
theorem dX13_tidy_153 : decode cX13_tidy 153 = .ok (.iload_n 2, 1) := by decide +kernel
theorem dX13_tidy_154 : decode cX13_tidy 154 = .ok (.aload_n 0, 1) := by decide +kernel
theorem dX13_tidy_155 : decode cX13_tidy 155 = .ok (.getfield 208, 3) := by decide +kernel
theorem dX13_tidy_158 : decode cX13_tidy 158 = .ok (.if_icmp .ge 26, 3) := by decide +kernel
theorem dX13_tidy_161 : decode cX13_tidy 161 = .ok (.aload_n 0, 1) := by decide +kernel
theorem dX13_tidy_162 : decode cX13_tidy 162 = .ok (.getfield 164, 3) := by decide +kernel
theorem dX13_tidy_165 : decode cX13_tidy 165 = .ok (.iload_n 2, 1) := by decide +kernel
theorem dX13_tidy_166 : decode cX13_tidy 166 = .ok (.iaload, 1) := by decide +kernel
theorem dX13_tidy_167 : decode cX13_tidy 167 = .ok (.ifCond .le 9, 3) := by decide +kernel
theorem dX13_tidy_170 : decode cX13_tidy 170 = .ok (.iinc 2 1, 3) := by decide +kernel
theorem dX13_tidy_173 : decode cX13_tidy 173 = .ok (.goto (-20), 3) := by decide +kernel
theorem dX13_tidy_176 : decode cX13_tidy 176 = .ok (.aload_n 0, 1) := by decide +kernel
theorem dX13_tidy_177 : decode cX13_tidy 177 = .ok (.iload_n 2, 1) := by decide +kernel
theorem dX13_tidy_178 : decode cX13_tidy 178 = .ok (.invokevirtual 266, 3) := by decide +kernel
theorem dX13_tidy_181 : decode cX13_tidy 181 = .ok (.goto (-28), 3) := by decide +kernel
theorem dX13_tidy_184 : decode cX13_tidy 184 = .ok (.iload_n 1, 1) := by decide +kernel
theorem dX13_tidy_185 : decode cX13_tidy 185 = .ok (.aload_n 0, 1) := by decide +kernel
theorem dX13_tidy_186 : decode cX13_tidy 186 = .ok (.invokevirtual 246, 3) := by decide +kernel
theorem dX13_tidy_189 : decode cX13_tidy 189 = .ok (.isub, 1) := by decide +kernel
theorem dX13_tidy_190 : decode cX13_tidy 190 = .ok (.ireturn, 1) := by decide +kernel
theorem dX13_keepers_0 : decode cX13_keepers 0 = .ok (.iconst 0, 1) := by decide +kernel
theorem dX13_keepers_1 : decode cX13_keepers 1 = .ok (.istore_n 2, 1) := by decide +kernel
theorem dX13_keepers_2 : decode cX13_keepers 2 = .ok (.iconst 0, 1) := by decide +kernel
theorem dX13_keepers_3 : decode cX13_keepers 3 = .ok (.istore_n 3, 1) := by decide +kernel
theorem dX13_keepers_4 : decode cX13_keepers 4 = .ok (.iload_n 3, 1) := by decide +kernel
theorem dX13_keepers_5 : decode cX13_keepers 5 = .ok (.aload_n 0, 1) := by decide +kernel
theorem dX13_keepers_6 : decode cX13_keepers 6 = .ok (.getfield 222, 3) := by decide +kernel
theorem dX13_keepers_9 : decode cX13_keepers 9 = .ok (.if_icmp .ge 35, 3) := by decide +kernel
theorem dX13_keepers_12 : decode cX13_keepers 12 = .ok (.iload_n 2, 1) := by decide +kernel
theorem dX13_keepers_13 : decode cX13_keepers 13 = .ok (.aload_n 0, 1) := by decide +kernel
theorem dX13_keepers_14 : decode cX13_keepers 14 = .ok (.getfield 29, 3) := by decide +kernel
theorem dX13_keepers_17 : decode cX13_keepers 17 = .ok (.iload_n 3, 1) := by decide +kernel
theorem dX13_keepers_18 : decode cX13_keepers 18 = .ok (.baload, 1) := by decide +kernel
theorem dX13_keepers_19 : decode cX13_keepers 19 = .ok (.ifCond .eq 16, 3) := by decide +kernel
theorem dX13_keepers_22 : decode cX13_keepers 22 = .ok (.aload_n 0, 1) := by decide +kernel
theorem dX13_keepers_23 : decode cX13_keepers 23 = .ok (.iload_n 3, 1) := by decide +kernel
theorem dX13_keepers_24 : decode cX13_keepers 24 = .ok (.iload_n 1, 1) := by decide +kernel
theorem dX13_keepers_25 : decode cX13_keepers 25 = .ok (.invokevirtual 269, 3) := by decide +kernel
theorem dX13_keepers_28 : decode cX13_keepers 28 = .ok (.ifCond .le 7, 3) := by decide +kernel
theorem dX13_keepers_31 : decode cX13_keepers 31 = .ok (.iconst 1, 1) := by decide +kernel
theorem dX13_keepers_32 : decode cX13_keepers 32 = .ok (.goto 4, 3) := by decide +kernel
theorem dX13_keepers_35 : decode cX13_keepers 35 = .ok (.iconst 0, 1) := by decide +kernel
theorem dX13_keepers_36 : decode cX13_keepers 36 = .ok (.iadd, 1) := by decide +kernel
theorem dX13_keepers_37 : decode cX13_keepers 37 = .ok (.istore_n 2, 1) := by decide +kernel
theorem dX13_keepers_38 : decode cX13_keepers 38 = .ok (.iinc 3 1, 3) := by decide +kernel
theorem dX13_keepers_41 : decode cX13_keepers 41 = .ok (.goto (-37), 3) := by decide +kernel
theorem dX13_keepers_44 : decode cX13_keepers 44 = .ok (.iload_n 2, 1) := by decide +kernel
theorem dX13_keepers_45 : decode cX13_keepers 45 = .ok (.ireturn, 1) := by decide +kernel
theorem dX13_drop_0 : decode cX13_drop 0 = .ok (.aload_n 0, 1) := by decide +kernel
theorem dX13_drop_1 : decode cX13_drop 1 = .ok (.getfield 208, 3) := by decide +kernel
theorem dX13_drop_4 : decode cX13_drop 4 = .ok (.iconst 1, 1) := by decide +kernel
theorem dX13_drop_5 : decode cX13_drop 5 = .ok (.isub, 1) := by decide +kernel
theorem dX13_drop_6 : decode cX13_drop 6 = .ok (.istore_n 2, 1) := by decide +kernel
theorem dX13_drop_7 : decode cX13_drop 7 = .ok (.iconst 0, 1) := by decide +kernel
theorem dX13_drop_8 : decode cX13_drop 8 = .ok (.istore_n 3, 1) := by decide +kernel
theorem dX13_drop_9 : decode cX13_drop 9 = .ok (.iload_n 3, 1) := by decide +kernel
theorem dX13_drop_10 : decode cX13_drop 10 = .ok (.bipush 12, 2) := by decide +kernel
theorem dX13_drop_12 : decode cX13_drop 12 = .ok (.if_icmp .ge 31, 3) := by decide +kernel
theorem dX13_drop_15 : decode cX13_drop 15 = .ok (.aload_n 0, 1) := by decide +kernel
theorem dX13_drop_16 : decode cX13_drop 16 = .ok (.getfield 13, 3) := by decide +kernel
theorem dX13_drop_19 : decode cX13_drop 19 = .ok (.bipush 12, 2) := by decide +kernel
theorem dX13_drop_21 : decode cX13_drop 21 = .ok (.iload_n 1, 1) := by decide +kernel
theorem dX13_drop_22 : decode cX13_drop 22 = .ok (.imul, 1) := by decide +kernel
theorem dX13_drop_23 : decode cX13_drop 23 = .ok (.iload_n 3, 1) := by decide +kernel
theorem dX13_drop_24 : decode cX13_drop 24 = .ok (.iadd, 1) := by decide +kernel
theorem dX13_drop_25 : decode cX13_drop 25 = .ok (.aload_n 0, 1) := by decide +kernel
theorem dX13_drop_26 : decode cX13_drop 26 = .ok (.getfield 13, 3) := by decide +kernel
theorem dX13_drop_29 : decode cX13_drop 29 = .ok (.bipush 12, 2) := by decide +kernel
theorem dX13_drop_31 : decode cX13_drop 31 = .ok (.iload_n 2, 1) := by decide +kernel
theorem dX13_drop_32 : decode cX13_drop 32 = .ok (.imul, 1) := by decide +kernel
theorem dX13_drop_33 : decode cX13_drop 33 = .ok (.iload_n 3, 1) := by decide +kernel
theorem dX13_drop_34 : decode cX13_drop 34 = .ok (.iadd, 1) := by decide +kernel
theorem dX13_drop_35 : decode cX13_drop 35 = .ok (.baload, 1) := by decide +kernel
theorem dX13_drop_36 : decode cX13_drop 36 = .ok (.bastore, 1) := by decide +kernel
theorem dX13_drop_37 : decode cX13_drop 37 = .ok (.iinc 3 1, 3) := by decide +kernel
theorem dX13_drop_40 : decode cX13_drop 40 = .ok (.goto (-31), 3) := by decide +kernel
theorem dX13_drop_43 : decode cX13_drop 43 = .ok (.aload_n 0, 1) := by decide +kernel
theorem dX13_drop_44 : decode cX13_drop 44 = .ok (.getfield 16, 3) := by decide +kernel
theorem dX13_drop_47 : decode cX13_drop 47 = .ok (.iload_n 1, 1) := by decide +kernel
theorem dX13_drop_48 : decode cX13_drop 48 = .ok (.aload_n 0, 1) := by decide +kernel
theorem dX13_drop_49 : decode cX13_drop 49 = .ok (.getfield 16, 3) := by decide +kernel
theorem dX13_drop_52 : decode cX13_drop 52 = .ok (.iload_n 2, 1) := by decide +kernel
theorem dX13_drop_53 : decode cX13_drop 53 = .ok (.iaload, 1) := by decide +kernel
theorem dX13_drop_54 : decode cX13_drop 54 = .ok (.iastore, 1) := by decide +kernel
theorem dX13_drop_55 : decode cX13_drop 55 = .ok (.aload_n 0, 1) := by decide +kernel
theorem dX13_drop_56 : decode cX13_drop 56 = .ok (.getfield 164, 3) := by decide +kernel
theorem dX13_drop_59 : decode cX13_drop 59 = .ok (.iload_n 1, 1) := by decide +kernel
theorem dX13_drop_60 : decode cX13_drop 60 = .ok (.aload_n 0, 1) := by decide +kernel
theorem dX13_drop_61 : decode cX13_drop 61 = .ok (.getfield 164, 3) := by decide +kernel
theorem dX13_drop_64 : decode cX13_drop 64 = .ok (.iload_n 2, 1) := by decide +kernel
theorem dX13_drop_65 : decode cX13_drop 65 = .ok (.iaload, 1) := by decide +kernel
theorem dX13_drop_66 : decode cX13_drop 66 = .ok (.iastore, 1) := by decide +kernel
theorem dX13_drop_67 : decode cX13_drop 67 = .ok (.iconst 0, 1) := by decide +kernel
theorem dX13_drop_68 : decode cX13_drop 68 = .ok (.istore_n 3, 1) := by decide +kernel
theorem dX13_drop_69 : decode cX13_drop 69 = .ok (.iload_n 3, 1) := by decide +kernel
theorem dX13_drop_70 : decode cX13_drop 70 = .ok (.sipush 1024, 3) := by decide +kernel
theorem dX13_drop_73 : decode cX13_drop 73 = .ok (.aload_n 0, 1) := by decide +kernel
theorem dX13_drop_74 : decode cX13_drop 74 = .ok (.getfield 222, 3) := by decide +kernel
theorem dX13_drop_77 : decode cX13_drop 77 = .ok (.imul, 1) := by decide +kernel
theorem dX13_drop_78 : decode cX13_drop 78 = .ok (.if_icmp .ge 31, 3) := by decide +kernel
theorem dX13_drop_81 : decode cX13_drop 81 = .ok (.aload_n 0, 1) := by decide +kernel
theorem dX13_drop_82 : decode cX13_drop 82 = .ok (.getfield 21, 3) := by decide +kernel
theorem dX13_drop_85 : decode cX13_drop 85 = .ok (.iload_n 3, 1) := by decide +kernel
theorem dX13_drop_86 : decode cX13_drop 86 = .ok (.saload, 1) := by decide +kernel
theorem dX13_drop_87 : decode cX13_drop 87 = .ok (.iload_n 2, 1) := by decide +kernel
theorem dX13_drop_88 : decode cX13_drop 88 = .ok (.iconst 1, 1) := by decide +kernel
theorem dX13_drop_89 : decode cX13_drop 89 = .ok (.iadd, 1) := by decide +kernel
theorem dX13_drop_90 : decode cX13_drop 90 = .ok (.if_icmp .ne 13, 3) := by decide +kernel
theorem dX13_drop_93 : decode cX13_drop 93 = .ok (.aload_n 0, 1) := by decide +kernel
theorem dX13_drop_94 : decode cX13_drop 94 = .ok (.getfield 21, 3) := by decide +kernel
theorem dX13_drop_97 : decode cX13_drop 97 = .ok (.iload_n 3, 1) := by decide +kernel
theorem dX13_drop_98 : decode cX13_drop 98 = .ok (.iload_n 1, 1) := by decide +kernel
theorem dX13_drop_99 : decode cX13_drop 99 = .ok (.iconst 1, 1) := by decide +kernel
theorem dX13_drop_100 : decode cX13_drop 100 = .ok (.iadd, 1) := by decide +kernel
theorem dX13_drop_101 : decode cX13_drop 101 = .ok (.i2s, 1) := by decide +kernel
theorem dX13_drop_102 : decode cX13_drop 102 = .ok (.sastore, 1) := by decide +kernel
theorem dX13_drop_103 : decode cX13_drop 103 = .ok (.iinc 3 1, 3) := by decide +kernel
theorem dX13_drop_106 : decode cX13_drop 106 = .ok (.goto (-37), 3) := by decide +kernel
theorem dX13_drop_109 : decode cX13_drop 109 = .ok (.aload_n 0, 1) := by decide +kernel
theorem dX13_drop_110 : decode cX13_drop 110 = .ok (.dup, 1) := by decide +kernel
theorem dX13_drop_111 : decode cX13_drop 111 = .ok (.getfield 208, 3) := by decide +kernel
theorem dX13_drop_114 : decode cX13_drop 114 = .ok (.iconst 1, 1) := by decide +kernel
theorem dX13_drop_115 : decode cX13_drop 115 = .ok (.isub, 1) := by decide +kernel
theorem dX13_drop_116 : decode cX13_drop 116 = .ok (.putfield 208, 3) := by decide +kernel
theorem dX13_drop_119 : decode cX13_drop 119 = .ok (.aload_n 0, 1) := by decide +kernel
theorem dX13_drop_120 : decode cX13_drop 120 = .ok (.iconst 0, 1) := by decide +kernel
theorem dX13_drop_121 : decode cX13_drop 121 = .ok (.putfield 249, 3) := by decide +kernel
theorem dX13_drop_124 : decode cX13_drop 124 = .ok (.return_, 1) := by decide +kernel
theorem dX13_takesToken_0 : decode cX13_takesToken 0 = .ok (.aload_n 0, 1) := by decide +kernel
theorem dX13_takesToken_1 : decode cX13_takesToken 1 = .ok (.getfield 173, 3) := by decide +kernel
theorem dX13_takesToken_4 : decode cX13_takesToken 4 = .ok (.istore_n 1, 1) := by decide +kernel
theorem dX13_takesToken_5 : decode cX13_takesToken 5 = .ok (.aload_n 0, 1) := by decide +kernel
theorem dX13_takesToken_6 : decode cX13_takesToken 6 = .ok (.iconst 0, 1) := by decide +kernel
theorem dX13_takesToken_7 : decode cX13_takesToken 7 = .ok (.putfield 173, 3) := by decide +kernel
theorem dX13_takesToken_10 : decode cX13_takesToken 10 = .ok (.aload_n 0, 1) := by decide +kernel
theorem dX13_takesToken_11 : decode cX13_takesToken 11 = .ok (.iconst 0, 1) := by decide +kernel
theorem dX13_takesToken_12 : decode cX13_takesToken 12 = .ok (.iload_n 1, 1) := by decide +kernel
theorem dX13_takesToken_13 : decode cX13_takesToken 13 = .ok (.invokevirtual 272, 3) := by decide +kernel
theorem dX13_takesToken_16 : decode cX13_takesToken 16 = .ok (.istore_n 2, 1) := by decide +kernel
theorem dX13_takesToken_17 : decode cX13_takesToken 17 = .ok (.iload_n 2, 1) := by decide +kernel
