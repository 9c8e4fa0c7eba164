theorem dX0_init_0 : decode cX0_init 0 = .ok (.aload_n 0, 1) := by decide +kernel
theorem dX0_init_1 : decode cX0_init 1 = .ok (.invokespecial 3, 3) := by decide +kernel
theorem dX0_init_4 : decode cX0_init 4 = .ok (.aload_n 0, 1) := by decide +kernel
theorem dX0_init_5 : decode cX0_init 5 = .ok (.bipush 120, 2) := by decide +kernel
theorem dX0_init_7 : decode cX0_init 7 = .ok (.newarray .boolean, 2) := by decide +kernel
theorem dX0_init_9 : decode cX0_init 9 = .ok (.putfield 9, 3) := by decide +kernel
theorem dX0_init_12 : decode cX0_init 12 = .ok (.aload_n 0, 1) := by decide +kernel
theorem dX0_init_13 : decode cX0_init 13 = .ok (.bipush 120, 2) := by decide +kernel
theorem dX0_init_15 : decode cX0_init 15 = .ok (.newarray .int, 2) := by decide +kernel
theorem dX0_init_17 : decode cX0_init 17 = .ok (.putfield 15, 3) := by decide +kernel
theorem dX0_init_20 : decode cX0_init 20 = .ok (.aload_n 0, 1) := by decide +kernel
theorem dX0_init_21 : decode cX0_init 21 = .ok (.bipush 120, 2) := by decide +kernel
theorem dX0_init_23 : decode cX0_init 23 = .ok (.newarray .int, 2) := by decide +kernel
theorem dX0_init_25 : decode cX0_init 25 = .ok (.putfield 19, 3) := by decide +kernel
theorem dX0_init_28 : decode cX0_init 28 = .ok (.aload_n 0, 1) := by decide +kernel
theorem dX0_init_29 : decode cX0_init 29 = .ok (.bipush 120, 2) := by decide +kernel
theorem dX0_init_31 : decode cX0_init 31 = .ok (.newarray .int, 2) := by decide +kernel
theorem dX0_init_33 : decode cX0_init 33 = .ok (.putfield 22, 3) := by decide +kernel
theorem dX0_init_36 : decode cX0_init 36 = .ok (.aload_n 0, 1) := by decide +kernel
theorem dX0_init_37 : decode cX0_init 37 = .ok (.iconst 0, 1) := by decide +kernel
theorem dX0_init_38 : decode cX0_init 38 = .ok (.putfield 25, 3) := by decide +kernel
theorem dX0_init_41 : decode cX0_init 41 = .ok (.aload_n 0, 1) := by decide +kernel
theorem dX0_init_42 : decode cX0_init 42 = .ok (.iconst 0, 1) := by decide +kernel
theorem dX0_init_43 : decode cX0_init 43 = .ok (.putfield 29, 3) := by decide +kernel
theorem dX0_init_46 : decode cX0_init 46 = .ok (.return_, 1) := by decide +kernel
theorem dX0_size_0 : decode cX0_size 0 = .ok (.aload_n 0, 1) := by decide +kernel
theorem dX0_size_1 : decode cX0_size 1 = .ok (.getfield 25, 3) := by decide +kernel
theorem dX0_size_4 : decode cX0_size 4 = .ok (.ireturn, 1) := by decide +kernel
theorem dX0_onShelf_0 : decode cX0_onShelf 0 = .ok (.aload_n 0, 1) := by decide +kernel
theorem dX0_onShelf_1 : decode cX0_onShelf 1 = .ok (.getfield 29, 3) := by decide +kernel
theorem dX0_onShelf_4 : decode cX0_onShelf 4 = .ok (.ireturn, 1) := by decide +kernel
theorem dX0_add_0 : decode cX0_add 0 = .ok (.aload_n 0, 1) := by decide +kernel
theorem dX0_add_1 : decode cX0_add 1 = .ok (.getfield 25, 3) := by decide +kernel
theorem dX0_add_4 : decode cX0_add 4 = .ok (.bipush 120, 2) := by decide +kernel
theorem dX0_add_6 : decode cX0_add 6 = .ok (.if_icmp .ge 53, 3) := by decide +kernel
theorem dX0_add_9 : decode cX0_add 9 = .ok (.aload_n 0, 1) := by decide +kernel
theorem dX0_add_10 : decode cX0_add 10 = .ok (.getfield 9, 3) := by decide +kernel
theorem dX0_add_13 : decode cX0_add 13 = .ok (.aload_n 0, 1) := by decide +kernel
theorem dX0_add_14 : decode cX0_add 14 = .ok (.getfield 25, 3) := by decide +kernel
theorem dX0_add_17 : decode cX0_add 17 = .ok (.iconst 1, 1) := by decide +kernel
theorem dX0_add_18 : decode cX0_add 18 = .ok (.bastore, 1) := by decide +kernel
theorem dX0_add_19 : decode cX0_add 19 = .ok (.aload_n 0, 1) := by decide +kernel
theorem dX0_add_20 : decode cX0_add 20 = .ok (.getfield 15, 3) := by decide +kernel
theorem dX0_add_23 : decode cX0_add 23 = .ok (.aload_n 0, 1) := by decide +kernel
theorem dX0_add_24 : decode cX0_add 24 = .ok (.getfield 25, 3) := by decide +kernel
theorem dX0_add_27 : decode cX0_add 27 = .ok (.iload_n 1, 1) := by decide +kernel
theorem dX0_add_28 : decode cX0_add 28 = .ok (.iastore, 1) := by decide +kernel
theorem dX0_add_29 : decode cX0_add 29 = .ok (.aload_n 0, 1) := by decide +kernel
theorem dX0_add_30 : decode cX0_add 30 = .ok (.getfield 22, 3) := by decide +kernel
theorem dX0_add_33 : decode cX0_add 33 = .ok (.aload_n 0, 1) := by decide +kernel
theorem dX0_add_34 : decode cX0_add 34 = .ok (.getfield 25, 3) := by decide +kernel
theorem dX0_add_37 : decode cX0_add 37 = .ok (.iload_n 2, 1) := by decide +kernel
theorem dX0_add_38 : decode cX0_add 38 = .ok (.iastore, 1) := by decide +kernel
theorem dX0_add_39 : decode cX0_add 39 = .ok (.aload_n 0, 1) := by decide +kernel
theorem dX0_add_40 : decode cX0_add 40 = .ok (.dup, 1) := by decide +kernel
theorem dX0_add_41 : decode cX0_add 41 = .ok (.getfield 25, 3) := by decide +kernel
theorem dX0_add_44 : decode cX0_add 44 = .ok (.iconst 1, 1) := by decide +kernel
theorem dX0_add_45 : decode cX0_add 45 = .ok (.iadd, 1) := by decide +kernel
theorem dX0_add_46 : decode cX0_add 46 = .ok (.putfield 25, 3) := by decide +kernel
theorem dX0_add_49 : decode cX0_add 49 = .ok (.aload_n 0, 1) := by decide +kernel
theorem dX0_add_50 : decode cX0_add 50 = .ok (.dup, 1) := by decide +kernel
theorem dX0_add_51 : decode cX0_add 51 = .ok (.getfield 29, 3) := by decide +kernel
theorem dX0_add_54 : decode cX0_add 54 = .ok (.iconst 1, 1) := by decide +kernel
theorem dX0_add_55 : decode cX0_add 55 = .ok (.iadd, 1) := by decide +kernel
theorem dX0_add_56 : decode cX0_add 56 = .ok (.putfield 29, 3) := by decide +kernel
theorem dX0_add_59 : decode cX0_add 59 = .ok (.return_, 1) := by decide +kernel
theorem dX0_came_0 : decode cX0_came 0 = .ok (.iload_n 1, 1) := by decide +kernel
theorem dX0_came_1 : decode cX0_came 1 = .ok (.ifCond .lt 15, 3) := by decide +kernel
theorem dX0_came_4 : decode cX0_came 4 = .ok (.iload_n 1, 1) := by decide +kernel
theorem dX0_came_5 : decode cX0_came 5 = .ok (.aload_n 0, 1) := by decide +kernel
theorem dX0_came_6 : decode cX0_came 6 = .ok (.getfield 25, 3) := by decide +kernel
theorem dX0_came_9 : decode cX0_came 9 = .ok (.if_icmp .ge 7, 3) := by decide +kernel
theorem dX0_came_12 : decode cX0_came 12 = .ok (.iconst 1, 1) := by decide +kernel
theorem dX0_came_13 : decode cX0_came 13 = .ok (.goto 4, 3) := by decide +kernel
theorem dX0_came_16 : decode cX0_came 16 = .ok (.iconst 0, 1) := by decide +kernel
theorem dX0_came_17 : decode cX0_came 17 = .ok (.ireturn, 1) := by decide +kernel
theorem dX0_isOn_0 : decode cX0_isOn 0 = .ok (.aload_n 0, 1) := by decide +kernel
theorem dX0_isOn_1 : decode cX0_isOn 1 = .ok (.iload_n 1, 1) := by decide +kernel
theorem dX0_isOn_2 : decode cX0_isOn 2 = .ok (.invokevirtual 32, 3) := by decide +kernel
theorem dX0_isOn_5 : decode cX0_isOn 5 = .ok (.ifCond .eq 16, 3) := by decide +kernel
theorem dX0_isOn_8 : decode cX0_isOn 8 = .ok (.aload_n 0, 1) := by decide +kernel
theorem dX0_isOn_9 : decode cX0_isOn 9 = .ok (.getfield 9, 3) := by decide +kernel
theorem dX0_isOn_12 : decode cX0_isOn 12 = .ok (.iload_n 1, 1) := by decide +kernel
theorem dX0_isOn_13 : decode cX0_isOn 13 = .ok (.baload, 1) := by decide +kernel
theorem dX0_isOn_14 : decode cX0_isOn 14 = .ok (.ifCond .eq 7, 3) := by decide +kernel
theorem dX0_isOn_17 : decode cX0_isOn 17 = .ok (.iconst 1, 1) := by decide +kernel
theorem dX0_isOn_18 : decode cX0_isOn 18 = .ok (.goto 4, 3) := by decide +kernel
theorem dX0_isOn_21 : decode cX0_isOn 21 = .ok (.iconst 0, 1) := by decide +kernel
theorem dX0_isOn_22 : decode cX0_isOn 22 = .ok (.ireturn, 1) := by decide +kernel
theorem dX0_takeOff_0 : decode cX0_takeOff 0 = .ok (.aload_n 0, 1) := by decide +kernel
theorem dX0_takeOff_1 : decode cX0_takeOff 1 = .ok (.iload_n 1, 1) := by decide +kernel
theorem dX0_takeOff_2 : decode cX0_takeOff 2 = .ok (.invokevirtual 36, 3) := by decide +kernel
theorem dX0_takeOff_5 : decode cX0_takeOff 5 = .ok (.ifCond .ne 5, 3) := by decide +kernel
theorem dX0_takeOff_8 : decode cX0_takeOff 8 = .ok (.iconst 0, 1) := by decide +kernel
theorem dX0_takeOff_9 : decode cX0_takeOff 9 = .ok (.ireturn, 1) := by decide +kernel
theorem dX0_takeOff_10 : decode cX0_takeOff 10 = .ok (.aload_n 0, 1) := by decide +kernel
theorem dX0_takeOff_11 : decode cX0_takeOff 11 = .ok (.getfield 9, 3) := by decide +kernel
theorem dX0_takeOff_14 : decode cX0_takeOff 14 = .ok (.iload_n 1, 1) := by decide +kernel
theorem dX0_takeOff_15 : decode cX0_takeOff 15 = .ok (.iconst 0, 1) := by decide +kernel
theorem dX0_takeOff_16 : decode cX0_takeOff 16 = .ok (.bastore, 1) := by decide +kernel
theorem dX0_takeOff_17 : decode cX0_takeOff 17 = .ok (.aload_n 0, 1) := by decide +kernel
theorem dX0_takeOff_18 : decode cX0_takeOff 18 = .ok (.dup, 1) := by decide +kernel
theorem dX0_takeOff_19 : decode cX0_takeOff 19 = .ok (.getfield 29, 3) := by decide +kernel
theorem dX0_takeOff_22 : decode cX0_takeOff 22 = .ok (.iconst 1, 1) := by decide +kernel
theorem dX0_takeOff_23 : decode cX0_takeOff 23 = .ok (.isub, 1) := by decide +kernel
theorem dX0_takeOff_24 : decode cX0_takeOff 24 = .ok (.putfield 29, 3) := by decide +kernel
theorem dX0_takeOff_27 : decode cX0_takeOff 27 = .ok (.iconst 1, 1) := by decide +kernel
theorem dX0_takeOff_28 : decode cX0_takeOff 28 = .ok (.ireturn, 1) := by decide +kernel
theorem dX0_setMark_0 : decode cX0_setMark 0 = .ok (.aload_n 0, 1) := by decide +kernel
theorem dX0_setMark_1 : decode cX0_setMark 1 = .ok (.iload_n 1, 1) := by decide +kernel
theorem dX0_setMark_2 : decode cX0_setMark 2 = .ok (.invokevirtual 36, 3) := by decide +kernel
theorem dX0_setMark_5 : decode cX0_setMark 5 = .ok (.ifCond .ne 5, 3) := by decide +kernel
theorem dX0_setMark_8 : decode cX0_setMark 8 = .ok (.iconst 0, 1) := by decide +kernel
theorem dX0_setMark_9 : decode cX0_setMark 9 = .ok (.ireturn, 1) := by decide +kernel
theorem dX0_setMark_10 : decode cX0_setMark 10 = .ok (.aload_n 0, 1) := by decide +kernel
theorem dX0_setMark_11 : decode cX0_setMark 11 = .ok (.getfield 19, 3) := by decide +kernel
theorem dX0_setMark_14 : decode cX0_setMark 14 = .ok (.iload_n 1, 1) := by decide +kernel
theorem dX0_setMark_15 : decode cX0_setMark 15 = .ok (.iload_n 2, 1) := by decide +kernel
theorem dX0_setMark_16 : decode cX0_setMark 16 = .ok (.iastore, 1) := by decide +kernel
theorem dX0_setMark_17 : decode cX0_setMark 17 = .ok (.iconst 1, 1) := by decide +kernel
theorem dX0_setMark_18 : decode cX0_setMark 18 = .ok (.ireturn, 1) := by decide +kernel
theorem dX0_lengthOf_0 : decode cX0_lengthOf 0 = .ok (.aload_n 0, 1) := by decide +kernel
theorem dX0_lengthOf_1 : decode cX0_lengthOf 1 = .ok (.iload_n 1, 1) := by decide +kernel
theorem dX0_lengthOf_2 : decode cX0_lengthOf 2 = .ok (.invokevirtual 32, 3) := by decide +kernel
theorem dX0_lengthOf_5 : decode cX0_lengthOf 5 = .ok (.ifCond .eq 12, 3) := by decide +kernel
theorem dX0_lengthOf_8 : decode cX0_lengthOf 8 = .ok (.aload_n 0, 1) := by decide +kernel
theorem dX0_lengthOf_9 : decode cX0_lengthOf 9 = .ok (.getfield 15, 3) := by decide +kernel
theorem dX0_lengthOf_12 : decode cX0_lengthOf 12 = .ok (.iload_n 1, 1) := by decide +kernel
theorem dX0_lengthOf_13 : decode cX0_lengthOf 13 = .ok (.iaload, 1) := by decide +kernel
theorem dX0_lengthOf_14 : decode cX0_lengthOf 14 = .ok (.goto 4, 3) := by decide +kernel
theorem dX0_lengthOf_17 : decode cX0_lengthOf 17 = .ok (.iconst 0, 1) := by decide +kernel
theorem dX0_lengthOf_18 : decode cX0_lengthOf 18 = .ok (.ireturn, 1) := by decide +kernel
theorem dX0_markOf_0 : decode cX0_markOf 0 = .ok (.aload_n 0, 1) := by decide +kernel
theorem dX0_markOf_1 : decode cX0_markOf 1 = .ok (.iload_n 1, 1) := by decide +kernel
theorem dX0_markOf_2 : decode cX0_markOf 2 = .ok (.invokevirtual 32, 3) := by decide +kernel
theorem dX0_markOf_5 : decode cX0_markOf 5 = .ok (.ifCond .eq 12, 3) := by decide +kernel
theorem dX0_markOf_8 : decode cX0_markOf 8 = .ok (.aload_n 0, 1) := by decide +kernel
theorem dX0_markOf_9 : decode cX0_markOf 9 = .ok (.getfield 19, 3) := by decide +kernel
theorem dX0_markOf_12 : decode cX0_markOf 12 = .ok (.iload_n 1, 1) := by decide +kernel
theorem dX0_markOf_13 : decode cX0_markOf 13 = .ok (.iaload, 1) := by decide +kernel
theorem dX0_markOf_14 : decode cX0_markOf 14 = .ok (.goto 4, 3) := by decide +kernel
theorem dX0_markOf_17 : decode cX0_markOf 17 = .ok (.iconst 0, 1) := by decide +kernel
theorem dX0_markOf_18 : decode cX0_markOf 18 = .ok (.ireturn, 1) := by decide +kernel
theorem dX0_wordsOf_0 : decode cX0_wordsOf 0 = .ok (.aload_n 0, 1) := by decide +kernel
theorem dX0_wordsOf_1 : decode cX0_wordsOf 1 = .ok (.iload_n 1, 1) := by decide +kernel
theorem dX0_wordsOf_2 : decode cX0_wordsOf 2 = .ok (.invokevirtual 32, 3) := by decide +kernel
theorem dX0_wordsOf_5 : decode cX0_wordsOf 5 = .ok (.ifCond .eq 12, 3) := by decide +kernel
theorem dX0_wordsOf_8 : decode cX0_wordsOf 8 = .ok (.aload_n 0, 1) := by decide +kernel
theorem dX0_wordsOf_9 : decode cX0_wordsOf 9 = .ok (.getfield 22, 3) := by decide +kernel
theorem dX0_wordsOf_12 : decode cX0_wordsOf 12 = .ok (.iload_n 1, 1) := by decide +kernel
theorem dX0_wordsOf_13 : decode cX0_wordsOf 13 = .ok (.iaload, 1) := by decide +kernel
theorem dX0_wordsOf_14 : decode cX0_wordsOf 14 = .ok (.goto 4, 3) := by decide +kernel
theorem dX0_wordsOf_17 : decode cX0_wordsOf 17 = .ok (.iconst 0, 1) := by decide +kernel
theorem dX0_wordsOf_18 : decode cX0_wordsOf 18 = .ok (.ireturn, 1) := by decide +kernel
theorem dX1_init_0 : decode cX1_init 0 = .ok (.aload_n 0, 1) := by decide +kernel
theorem dX1_init_1 : decode cX1_init 1 = .ok (.invokespecial 3, 3) := by decide +kernel
theorem dX1_init_4 : decode cX1_init 4 = .ok (.aload_n 0, 1) := by decide +kernel
theorem dX1_init_5 : decode cX1_init 5 = .ok (.bipush 40, 2) := by decide +kernel
theorem dX1_init_7 : decode cX1_init 7 = .ok (.anewarray 9, 3) := by decide +kernel
theorem dX1_init_10 : decode cX1_init 10 = .ok (.putfield 11, 3) := by decide +kernel
theorem dX1_init_13 : decode cX1_init 13 = .ok (.aload_n 0, 1) := by decide +kernel
theorem dX1_init_14 : decode cX1_init 14 = .ok (.new 9, 3) := by decide +kernel
theorem dX1_init_17 : decode cX1_init 17 = .ok (.dup, 1) := by decide +kernel
theorem dX1_init_18 : decode cX1_init 18 = .ok (.invokespecial 17, 3) := by decide +kernel
theorem dX1_init_21 : decode cX1_init 21 = .ok (.putfield 18, 3) := by decide +kernel
theorem dX1_init_24 : decode cX1_init 24 = .ok (.aload_n 0, 1) := by decide +kernel
theorem dX1_init_25 : decode cX1_init 25 = .ok (.bipush 40, 2) := by decide +kernel
theorem dX1_init_27 : decode cX1_init 27 = .ok (.newarray .boolean, 2) := by decide +kernel
theorem dX1_init_29 : decode cX1_init 29 = .ok (.putfield 22, 3) := by decide +kernel
theorem dX1_init_32 : decode cX1_init 32 = .ok (.aload_n 0, 1) := by decide +kernel
theorem dX1_init_33 : decode cX1_init 33 = .ok (.bipush 40, 2) := by decide +kernel
theorem dX1_init_35 : decode cX1_init 35 = .ok (.newarray .boolean, 2) := by decide +kernel
theorem dX1_init_37 : decode cX1_init 37 = .ok (.putfield 26, 3) := by decide +kernel
theorem dX1_init_40 : decode cX1_init 40 = .ok (.aload_n 0, 1) := by decide +kernel
theorem dX1_init_41 : decode cX1_init 41 = .ok (.bipush 40, 2) := by decide +kernel
theorem dX1_init_43 : decode cX1_init 43 = .ok (.newarray .int, 2) := by decide +kernel
theorem dX1_init_45 : decode cX1_init 45 = .ok (.putfield 29, 3) := by decide +kernel
theorem dX1_init_48 : decode cX1_init 48 = .ok (.aload_n 0, 1) := by decide +kernel
theorem dX1_init_49 : decode cX1_init 49 = .ok (.bipush 120, 2) := by decide +kernel
theorem dX1_init_51 : decode cX1_init 51 = .ok (.newarray .int, 2) := by decide +kernel
theorem dX1_init_53 : decode cX1_init 53 = .ok (.putfield 33, 3) := by decide +kernel
theorem dX1_init_56 : decode cX1_init 56 = .ok (.aload_n 0, 1) := by decide +kernel
theorem dX1_init_57 : decode cX1_init 57 = .ok (.bipush 120, 2) := by decide +kernel
theorem dX1_init_59 : decode cX1_init 59 = .ok (.newarray .int, 2) := by decide +kernel
theorem dX1_init_61 : decode cX1_init 61 = .ok (.putfield 36, 3) := by decide +kernel
theorem dX1_init_64 : decode cX1_init 64 = .ok (.aload_n 0, 1) := by decide +kernel
theorem dX1_init_65 : decode cX1_init 65 = .ok (.bipush 120, 2) := by decide +kernel
theorem dX1_init_67 : decode cX1_init 67 = .ok (.newarray .int, 2) := by decide +kernel
theorem dX1_init_69 : decode cX1_init 69 = .ok (.putfield 39, 3) := by decide +kernel
theorem dX1_init_72 : decode cX1_init 72 = .ok (.aload_n 0, 1) := by decide +kernel
theorem dX1_init_73 : decode cX1_init 73 = .ok (.bipush 120, 2) := by decide +kernel
theorem dX1_init_75 : decode cX1_init 75 = .ok (.newarray .int, 2) := by decide +kernel
theorem dX1_init_77 : decode cX1_init 77 = .ok (.putfield 42, 3) := by decide +kernel
theorem dX1_init_80 : decode cX1_init 80 = .ok (.aload_n 0, 1) := by decide +kernel
theorem dX1_init_81 : decode cX1_init 81 = .ok (.bipush 120, 2) := by decide +kernel
theorem dX1_init_83 : decode cX1_init 83 = .ok (.newarray .int, 2) := by decide +kernel
theorem dX1_init_85 : decode cX1_init 85 = .ok (.putfield 45, 3) := by decide +kernel
theorem dX1_init_88 : decode cX1_init 88 = .ok (.aload_n 0, 1) := by decide +kernel
theorem dX1_init_89 : decode cX1_init 89 = .ok (.bipush 120, 2) := by decide +kernel
theorem dX1_init_91 : decode cX1_init 91 = .ok (.newarray .int, 2) := by decide +kernel
theorem dX1_init_93 : decode cX1_init 93 = .ok (.putfield 48, 3) := by decide +kernel
theorem dX1_init_96 : decode cX1_init 96 = .ok (.aload_n 0, 1) := by decide +kernel
theorem dX1_init_97 : decode cX1_init 97 = .ok (.iconst 0, 1) := by decide +kernel
theorem dX1_init_98 : decode cX1_init 98 = .ok (.newarray .int, 2) := by decide +kernel
theorem dX1_init_100 : decode cX1_init 100 = .ok (.putfield 51, 3) := by decide +kernel
theorem dX1_init_103 : decode cX1_init 103 = .ok (.aload_n 0, 1) := by decide +kernel
theorem dX1_init_104 : decode cX1_init 104 = .ok (.iconst 0, 1) := by decide +kernel
theorem dX1_init_105 : decode cX1_init 105 = .ok (.putfield 54, 3) := by decide +kernel
theorem dX1_init_108 : decode cX1_init 108 = .ok (.aload_n 0, 1) := by decide +kernel
theorem dX1_init_109 : decode cX1_init 109 = .ok (.aload_n 1, 1) := by decide +kernel
theorem dX1_init_110 : decode cX1_init 110 = .ok (.putfield 58, 3) := by decide +kernel
theorem dX1_init_113 : decode cX1_init 113 = .ok (.aload_n 0, 1) := by decide +kernel
theorem dX1_init_114 : decode cX1_init 114 = .ok (.aload_n 2, 1) := by decide +kernel
theorem dX1_init_115 : decode cX1_init 115 = .ok (.putfield 62, 3) := by decide +kernel
theorem dX1_init_118 : decode cX1_init 118 = .ok (.aload_n 0, 1) := by decide +kernel
theorem dX1_init_119 : decode cX1_init 119 = .ok (.aload 4, 2) := by decide +kernel
theorem dX1_init_121 : decode cX1_init 121 = .ok (.putfield 66, 3) := by decide +kernel
theorem dX1_init_124 : decode cX1_init 124 = .ok (.aload_n 0, 1) := by decide +kernel
theorem dX1_init_125 : decode cX1_init 125 = .ok (.new 70, 3) := by decide +kernel
theorem dX1_init_128 : decode cX1_init 128 = .ok (.dup, 1) := by decide +kernel
theorem dX1_init_129 : decode cX1_init 129 = .ok (.aload_n 2, 1) := by decide +kernel
theorem dX1_init_130 : decode cX1_init 130 = .ok (.aload_n 3, 1) := by decide +kernel
theorem dX1_init_131 : decode cX1_init 131 = .ok (.aload 4, 2) := by decide +kernel
theorem dX1_init_133 : decode cX1_init 133 = .ok (.invokespecial 72, 3) := by decide +kernel
theorem dX1_init_136 : decode cX1_init 136 = .ok (.putfield 75, 3) := by decide +kernel
theorem dX1_init_139 : decode cX1_init 139 = .ok (.return_, 1) := by decide +kernel
theorem dX1_found_0 : decode cX1_found 0 = .ok (.aload_n 0, 1) := by decide +kernel
theorem dX1_found_1 : decode cX1_found 1 = .ok (.getfield 54, 3) := by decide +kernel
theorem dX1_found_4 : decode cX1_found 4 = .ok (.ireturn, 1) := by decide +kernel
theorem dX1_numberAt_0 : decode cX1_numberAt 0 = .ok (.iload_n 1, 1) := by decide +kernel
theorem dX1_numberAt_1 : decode cX1_numberAt 1 = .ok (.ifCond .lt 20, 3) := by decide +kernel
theorem dX1_numberAt_4 : decode cX1_numberAt 4 = .ok (.iload_n 1, 1) := by decide +kernel
theorem dX1_numberAt_5 : decode cX1_numberAt 5 = .ok (.aload_n 0, 1) := by decide +kernel
theorem dX1_numberAt_6 : decode cX1_numberAt 6 = .ok (.getfield 54, 3) := by decide +kernel
theorem dX1_numberAt_9 : decode cX1_numberAt 9 = .ok (.if_icmp .ge 12, 3) := by decide +kernel
theorem dX1_numberAt_12 : decode cX1_numberAt 12 = .ok (.aload_n 0, 1) := by decide +kernel
theorem dX1_numberAt_13 : decode cX1_numberAt 13 = .ok (.getfield 33, 3) := by decide +kernel
theorem dX1_numberAt_16 : decode cX1_numberAt 16 = .ok (.iload_n 1, 1) := by decide +kernel
theorem dX1_numberAt_17 : decode cX1_numberAt 17 = .ok (.iaload, 1) := by decide +kernel
theorem dX1_numberAt_18 : decode cX1_numberAt 18 = .ok (.goto 4, 3) := by decide +kernel
theorem dX1_numberAt_21 : decode cX1_numberAt 21 = .ok (.iconst (-1), 1) := by decide +kernel
theorem dX1_numberAt_22 : decode cX1_numberAt 22 = .ok (.ireturn, 1) := by decide +kernel
theorem dX1_rankedNumber_0 : decode cX1_rankedNumber 0 = .ok (.iload_n 1, 1) := by decide +kernel
theorem dX1_rankedNumber_1 : decode cX1_rankedNumber 1 = .ok (.ifCond .lt 25, 3) := by decide +kernel
theorem dX1_rankedNumber_4 : decode cX1_rankedNumber 4 = .ok (.iload_n 1, 1) := by decide +kernel
theorem dX1_rankedNumber_5 : decode cX1_rankedNumber 5 = .ok (.aload_n 0, 1) := by decide +kernel
theorem dX1_rankedNumber_6 : decode cX1_rankedNumber 6 = .ok (.getfield 54, 3) := by decide +kernel
theorem dX1_rankedNumber_9 : decode cX1_rankedNumber 9 = .ok (.if_icmp .ge 17, 3) := by decide +kernel
theorem dX1_rankedNumber_12 : decode cX1_rankedNumber 12 = .ok (.aload_n 0, 1) := by decide +kernel
theorem dX1_rankedNumber_13 : decode cX1_rankedNumber 13 = .ok (.getfield 33, 3) := by decide +kernel
theorem dX1_rankedNumber_16 : decode cX1_rankedNumber 16 = .ok (.aload_n 0, 1) := by decide +kernel
theorem dX1_rankedNumber_17 : decode cX1_rankedNumber 17 = .ok (.getfield 42, 3) := by decide +kernel
theorem dX1_rankedNumber_20 : decode cX1_rankedNumber 20 = .ok (.iload_n 1, 1) := by decide +kernel
theorem dX1_rankedNumber_21 : decode cX1_rankedNumber 21 = .ok (.iaload, 1) := by decide +kernel
theorem dX1_rankedNumber_22 : decode cX1_rankedNumber 22 = .ok (.iaload, 1) := by decide +kernel
theorem dX1_rankedNumber_23 : decode cX1_rankedNumber 23 = .ok (.goto 4, 3) := by decide +kernel
theorem dX1_rankedNumber_26 : decode cX1_rankedNumber 26 = .ok (.iconst (-1), 1) := by decide +kernel
theorem dX1_rankedNumber_27 : decode cX1_rankedNumber 27 = .ok (.ireturn, 1) := by decide +kernel
theorem dX1_rankedScore_0 : decode cX1_rankedScore 0 = .ok (.iload_n 1, 1) := by decide +kernel
theorem dX1_rankedScore_1 : decode cX1_rankedScore 1 = .ok (.ifCond .lt 25, 3) := by decide +kernel
theorem dX1_rankedScore_4 : decode cX1_rankedScore 4 = .ok (.iload_n 1, 1) := by decide +kernel
theorem dX1_rankedScore_5 : decode cX1_rankedScore 5 = .ok (.aload_n 0, 1) := by decide +kernel
theorem dX1_rankedScore_6 : decode cX1_rankedScore 6 = .ok (.getfield 54, 3) := by decide +kernel
theorem dX1_rankedScore_9 : decode cX1_rankedScore 9 = .ok (.if_icmp .ge 17, 3) := by decide +kernel
theorem dX1_rankedScore_12 : decode cX1_rankedScore 12 = .ok (.aload_n 0, 1) := by decide +kernel
theorem dX1_rankedScore_13 : decode cX1_rankedScore 13 = .ok (.getfield 39, 3) := by decide +kernel
theorem dX1_rankedScore_16 : decode cX1_rankedScore 16 = .ok (.aload_n 0, 1) := by decide +kernel
theorem dX1_rankedScore_17 : decode cX1_rankedScore 17 = .ok (.getfield 42, 3) := by decide +kernel
theorem dX1_rankedScore_20 : decode cX1_rankedScore 20 = .ok (.iload_n 1, 1) := by decide +kernel
theorem dX1_rankedScore_21 : decode cX1_rankedScore 21 = .ok (.iaload, 1) := by decide +kernel
theorem dX1_rankedScore_22 : decode cX1_rankedScore 22 = .ok (.iaload, 1) := by decide +kernel
theorem dX1_rankedScore_23 : decode cX1_rankedScore 23 = .ok (.goto 4, 3) := by decide +kernel
theorem dX1_rankedScore_26 : decode cX1_rankedScore 26 = .ok (.iconst (-1), 1) := by decide +kernel
theorem dX1_rankedScore_27 : decode cX1_rankedScore 27 = .ok (.ireturn, 1) := by decide +kernel
theorem dX1_rankedPlace_0 : decode cX1_rankedPlace 0 = .ok (.iload_n 1, 1) := by decide +kernel
theorem dX1_rankedPlace_1 : decode cX1_rankedPlace 1 = .ok (.ifCond .lt 25, 3) := by decide +kernel
theorem dX1_rankedPlace_4 : decode cX1_rankedPlace 4 = .ok (.iload_n 1, 1) := by decide +kernel
theorem dX1_rankedPlace_5 : decode cX1_rankedPlace 5 = .ok (.aload_n 0, 1) := by decide +kernel
theorem dX1_rankedPlace_6 : decode cX1_rankedPlace 6 = .ok (.getfield 54, 3) := by decide +kernel
theorem dX1_rankedPlace_9 : decode cX1_rankedPlace 9 = .ok (.if_icmp .ge 17, 3) := by decide +kernel
theorem dX1_rankedPlace_12 : decode cX1_rankedPlace 12 = .ok (.aload_n 0, 1) := by decide +kernel
theorem dX1_rankedPlace_13 : decode cX1_rankedPlace 13 = .ok (.getfield 36, 3) := by decide +kernel
theorem dX1_rankedPlace_16 : decode cX1_rankedPlace 16 = .ok (.aload_n 0, 1) := by decide +kernel
theorem dX1_rankedPlace_17 : decode cX1_rankedPlace 17 = .ok (.getfield 42, 3) := by decide +kernel
theorem dX1_rankedPlace_20 : decode cX1_rankedPlace 20 = .ok (.iload_n 1, 1) := by decide +kernel
theorem dX1_rankedPlace_21 : decode cX1_rankedPlace 21 = .ok (.iaload, 1) := by decide +kernel
theorem dX1_rankedPlace_22 : decode cX1_rankedPlace 22 = .ok (.iaload, 1) := by decide +kernel
theorem dX1_rankedPlace_23 : decode cX1_rankedPlace 23 = .ok (.goto 4, 3) := by decide +kernel
theorem dX1_rankedPlace_26 : decode cX1_rankedPlace 26 = .ok (.iconst (-1), 1) := by decide +kernel
theorem dX1_rankedPlace_27 : decode cX1_rankedPlace 27 = .ok (.ireturn, 1) := by decide +kernel
theorem dX1_find_0 : decode cX1_find 0 = .ok (.aload_n 0, 1) := by decide +kernel
theorem dX1_find_1 : decode cX1_find 1 = .ok (.iconst 0, 1) := by decide +kernel
theorem dX1_find_2 : decode cX1_find 2 = .ok (.putfield 54, 3) := by decide +kernel
theorem dX1_find_5 : decode cX1_find 5 = .ok (.aload_n 0, 1) := by decide +kernel
theorem dX1_find_6 : decode cX1_find 6 = .ok (.invokevirtual 79, 3) := by decide +kernel
theorem dX1_find_9 : decode cX1_find 9 = .ok (.iconst 0, 1) := by decide +kernel
theorem dX1_find_10 : decode cX1_find 10 = .ok (.istore_n 1, 1) := by decide +kernel
theorem dX1_find_11 : decode cX1_find 11 = .ok (.aload_n 0, 1) := by decide +kernel
theorem dX1_find_12 : decode cX1_find 12 = .ok (.getfield 66, 3) := by decide +kernel
theorem dX1_find_15 : decode cX1_find 15 = .ok (.invokevirtual 82, 3) := by decide +kernel
theorem dX1_find_18 : decode cX1_find 18 = .ok (.ifCond .le 56, 3) := by decide +kernel
theorem dX1_find_21 : decode cX1_find 21 = .ok (.iload_n 1, 1) := by decide +kernel
theorem dX1_find_22 : decode cX1_find 22 = .ok (.aload_n 0, 1) := by decide +kernel
theorem dX1_find_23 : decode cX1_find 23 = .ok (.getfield 58, 3) := by decide +kernel
theorem dX1_find_26 : decode cX1_find 26 = .ok (.invokevirtual 88, 3) := by decide +kernel
theorem dX1_find_29 : decode cX1_find 29 = .ok (.if_icmp .ge 45, 3) := by decide +kernel
theorem dX1_find_32 : decode cX1_find 32 = .ok (.aload_n 0, 1) := by decide +kernel
theorem dX1_find_33 : decode cX1_find 33 = .ok (.getfield 58, 3) := by decide +kernel
theorem dX1_find_36 : decode cX1_find 36 = .ok (.iload_n 1, 1) := by decide +kernel
theorem dX1_find_37 : decode cX1_find 37 = .ok (.invokevirtual 93, 3) := by decide +kernel
theorem dX1_find_40 : decode cX1_find 40 = .ok (.ifCond .eq 28, 3) := by decide +kernel
theorem dX1_find_43 : decode cX1_find 43 = .ok (.aload_n 0, 1) := by decide +kernel
theorem dX1_find_44 : decode cX1_find 44 = .ok (.getfield 75, 3) := by decide +kernel
theorem dX1_find_47 : decode cX1_find 47 = .ok (.iload_n 1, 1) := by decide +kernel
theorem dX1_find_48 : decode cX1_find 48 = .ok (.invokevirtual 97, 3) := by decide +kernel
theorem dX1_find_51 : decode cX1_find 51 = .ok (.aload_n 0, 1) := by decide +kernel
theorem dX1_find_52 : decode cX1_find 52 = .ok (.iload_n 1, 1) := by decide +kernel
theorem dX1_find_53 : decode cX1_find 53 = .ok (.invokevirtual 101, 3) := by decide +kernel
theorem dX1_find_56 : decode cX1_find 56 = .ok (.aload_n 0, 1) := by decide +kernel
theorem dX1_find_57 : decode cX1_find 57 = .ok (.invokevirtual 104, 3) := by decide +kernel
theorem dX1_find_60 : decode cX1_find 60 = .ok (.ifCond .eq 8, 3) := by decide +kernel
theorem dX1_find_63 : decode cX1_find 63 = .ok (.aload_n 0, 1) := by decide +kernel
theorem dX1_find_64 : decode cX1_find 64 = .ok (.iload_n 1, 1) := by decide +kernel
theorem dX1_find_65 : decode cX1_find 65 = .ok (.invokevirtual 108, 3) := by decide +kernel
theorem dX1_find_68 : decode cX1_find 68 = .ok (.iinc 1 1, 3) := by decide +kernel
theorem dX1_find_71 : decode cX1_find 71 = .ok (.goto (-60), 3) := by decide +kernel
theorem dX1_find_74 : decode cX1_find 74 = .ok (.iconst 0, 1) := by decide +kernel
theorem dX1_find_75 : decode cX1_find 75 = .ok (.istore_n 1, 1) := by decide +kernel
theorem dX1_find_76 : decode cX1_find 76 = .ok (.iload_n 1, 1) := by decide +kernel
theorem dX1_find_77 : decode cX1_find 77 = .ok (.aload_n 0, 1) := by decide +kernel
theorem dX1_find_78 : decode cX1_find 78 = .ok (.getfield 54, 3) := by decide +kernel
theorem dX1_find_81 : decode cX1_find 81 = .ok (.if_icmp .ge 30, 3) := by decide +kernel
theorem dX1_find_84 : decode cX1_find 84 = .ok (.aload_n 0, 1) := by decide +kernel
theorem dX1_find_85 : decode cX1_find 85 = .ok (.getfield 39, 3) := by decide +kernel
theorem dX1_find_88 : decode cX1_find 88 = .ok (.iload_n 1, 1) := by decide +kernel
theorem dX1_find_89 : decode cX1_find 89 = .ok (.aload_n 0, 1) := by decide +kernel
theorem dX1_find_90 : decode cX1_find 90 = .ok (.aload_n 0, 1) := by decide +kernel
theorem dX1_find_91 : decode cX1_find 91 = .ok (.getfield 33, 3) := by decide +kernel
theorem dX1_find_94 : decode cX1_find 94 = .ok (.iload_n 1, 1) := by decide +kernel
theorem dX1_find_95 : decode cX1_find 95 = .ok (.iaload, 1) := by decide +kernel
theorem dX1_find_96 : decode cX1_find 96 = .ok (.invokevirtual 111, 3) := by decide +kernel
theorem dX1_find_99 : decode cX1_find 99 = .ok (.iastore, 1) := by decide +kernel
theorem dX1_find_100 : decode cX1_find 100 = .ok (.aload_n 0, 1) := by decide +kernel
theorem dX1_find_101 : decode cX1_find 101 = .ok (.iload_n 1, 1) := by decide +kernel
theorem dX1_find_102 : decode cX1_find 102 = .ok (.invokevirtual 115, 3) := by decide +kernel
theorem dX1_find_105 : decode cX1_find 105 = .ok (.iinc 1 1, 3) := by decide +kernel
theorem dX1_find_108 : decode cX1_find 108 = .ok (.goto (-32), 3) := by decide +kernel
theorem dX1_find_111 : decode cX1_find 111 = .ok (.return_, 1) := by decide +kernel
theorem dX1_prepare_0 : decode cX1_prepare 0 = .ok (.aload_n 0, 1) := by decide +kernel
theorem dX1_prepare_1 : decode cX1_prepare 1 = .ok (.getfield 75, 3) := by decide +kernel
theorem dX1_prepare_4 : decode cX1_prepare 4 = .ok (.invokevirtual 118, 3) := by decide +kernel
theorem dX1_prepare_7 : decode cX1_prepare 7 = .ok (.aload_n 0, 1) := by decide +kernel
theorem dX1_prepare_8 : decode cX1_prepare 8 = .ok (.getfield 51, 3) := by decide +kernel
theorem dX1_prepare_11 : decode cX1_prepare 11 = .ok (.arraylength, 1) := by decide +kernel
theorem dX1_prepare_12 : decode cX1_prepare 12 = .ok (.aload_n 0, 1) := by decide +kernel
theorem dX1_prepare_13 : decode cX1_prepare 13 = .ok (.getfield 66, 3) := by decide +kernel
theorem dX1_prepare_16 : decode cX1_prepare 16 = .ok (.invokevirtual 121, 3) := by decide +kernel
theorem dX1_prepare_19 : decode cX1_prepare 19 = .ok (.bipush 120, 2) := by decide +kernel
theorem dX1_prepare_21 : decode cX1_prepare 21 = .ok (.imul, 1) := by decide +kernel
theorem dX1_prepare_22 : decode cX1_prepare 22 = .ok (.if_icmp .ge 28, 3) := by decide +kernel
theorem dX1_prepare_25 : decode cX1_prepare 25 = .ok (.aload_n 0, 1) := by decide +kernel
theorem dX1_prepare_26 : decode cX1_prepare 26 = .ok (.aload_n 0, 1) := by decide +kernel
theorem dX1_prepare_27 : decode cX1_prepare 27 = .ok (.getfield 66, 3) := by decide +kernel
theorem dX1_prepare_30 : decode cX1_prepare 30 = .ok (.invokevirtual 121, 3) := by decide +kernel
theorem dX1_prepare_33 : decode cX1_prepare 33 = .ok (.bipush 9, 2) := by decide +kernel
theorem dX1_prepare_35 : decode cX1_prepare 35 = .ok (.iadd, 1) := by decide +kernel
theorem dX1_prepare_36 : decode cX1_prepare 36 = .ok (.bipush 10, 2) := by decide +kernel
theorem dX1_prepare_38 : decode cX1_prepare 38 = .ok (.idiv, 1) := by decide +kernel
theorem dX1_prepare_39 : decode cX1_prepare 39 = .ok (.bipush 10, 2) := by decide +kernel
theorem dX1_prepare_41 : decode cX1_prepare 41 = .ok (.imul, 1) := by decide +kernel
theorem dX1_prepare_42 : decode cX1_prepare 42 = .ok (.bipush 120, 2) := by decide +kernel
theorem dX1_prepare_44 : decode cX1_prepare 44 = .ok (.imul, 1) := by decide +kernel
theorem dX1_prepare_45 : decode cX1_prepare 45 = .ok (.newarray .int, 2) := by decide +kernel
theorem dX1_prepare_47 : decode cX1_prepare 47 = .ok (.putfield 51, 3) := by decide +kernel
theorem dX1_prepare_50 : decode cX1_prepare 50 = .ok (.iconst 0, 1) := by decide +kernel
theorem dX1_prepare_51 : decode cX1_prepare 51 = .ok (.istore_n 1, 1) := by decide +kernel
theorem dX1_prepare_52 : decode cX1_prepare 52 = .ok (.iload_n 1, 1) := by decide +kernel
theorem dX1_prepare_53 : decode cX1_prepare 53 = .ok (.aload_n 0, 1) := by decide +kernel
theorem dX1_prepare_54 : decode cX1_prepare 54 = .ok (.getfield 66, 3) := by decide +kernel
theorem dX1_prepare_57 : decode cX1_prepare 57 = .ok (.invokevirtual 121, 3) := by decide +kernel
theorem dX1_prepare_60 : decode cX1_prepare 60 = .ok (.if_icmp .ge 38, 3) := by decide +kernel
theorem dX1_prepare_63 : decode cX1_prepare 63 = .ok (.aload_n 0, 1) := by decide +kernel
theorem dX1_prepare_64 : decode cX1_prepare 64 = .ok (.getfield 29, 3) := by decide +kernel
theorem dX1_prepare_67 : decode cX1_prepare 67 = .ok (.iload_n 1, 1) := by decide +kernel
theorem dX1_prepare_68 : decode cX1_prepare 68 = .ok (.iconst 0, 1) := by decide +kernel
theorem dX1_prepare_69 : decode cX1_prepare 69 = .ok (.iastore, 1) := by decide +kernel
theorem dX1_prepare_70 : decode cX1_prepare 70 = .ok (.aload_n 0, 1) := by decide +kernel
theorem dX1_prepare_71 : decode cX1_prepare 71 = .ok (.getfield 11, 3) := by decide +kernel
theorem dX1_prepare_74 : decode cX1_prepare 74 = .ok (.iload_n 1, 1) := by decide +kernel
theorem dX1_prepare_75 : decode cX1_prepare 75 = .ok (.aaload, 1) := by decide +kernel
theorem dX1_prepare_76 : decode cX1_prepare 76 = .ok (.ifnonnull 16, 3) := by decide +kernel
theorem dX1_prepare_79 : decode cX1_prepare 79 = .ok (.aload_n 0, 1) := by decide +kernel
theorem dX1_prepare_80 : decode cX1_prepare 80 = .ok (.getfield 11, 3) := by decide +kernel
theorem dX1_prepare_83 : decode cX1_prepare 83 = .ok (.iload_n 1, 1) := by decide +kernel
theorem dX1_prepare_84 : decode cX1_prepare 84 = .ok (.new 9, 3) := by decide +kernel
theorem dX1_prepare_87 : decode cX1_prepare 87 = .ok (.dup, 1) := by decide +kernel
theorem dX1_prepare_88 : decode cX1_prepare 88 = .ok (.invokespecial 17, 3) := by decide +kernel
theorem dX1_prepare_91 : decode cX1_prepare 91 = .ok (.aastore, 1) := by decide +kernel
theorem dX1_prepare_92 : decode cX1_prepare 92 = .ok (.iinc 1 1, 3) := by decide +kernel
theorem dX1_prepare_95 : decode cX1_prepare 95 = .ok (.goto (-43), 3) := by decide +kernel
theorem dX1_prepare_98 : decode cX1_prepare 98 = .ok (.return_, 1) := by decide +kernel
theorem dX1_matchLeaves_0 : decode cX1_matchLeaves 0 = .ok (.iconst 0, 1) := by decide +kernel
theorem dX1_matchLeaves_1 : decode cX1_matchLeaves 1 = .ok (.istore_n 2, 1) := by decide +kernel
theorem dX1_matchLeaves_2 : decode cX1_matchLeaves 2 = .ok (.iload_n 2, 1) := by decide +kernel
theorem dX1_matchLeaves_3 : decode cX1_matchLeaves 3 = .ok (.aload_n 0, 1) := by decide +kernel
theorem dX1_matchLeaves_4 : decode cX1_matchLeaves 4 = .ok (.getfield 66, 3) := by decide +kernel
theorem dX1_matchLeaves_7 : decode cX1_matchLeaves 7 = .ok (.invokevirtual 121, 3) := by decide +kernel
theorem dX1_matchLeaves_10 : decode cX1_matchLeaves 10 = .ok (.if_icmp .ge 74, 3) := by decide +kernel
theorem dX1_matchLeaves_13 : decode cX1_matchLeaves 13 = .ok (.aload_n 0, 1) := by decide +kernel
theorem dX1_matchLeaves_14 : decode cX1_matchLeaves 14 = .ok (.getfield 66, 3) := by decide +kernel
theorem dX1_matchLeaves_17 : decode cX1_matchLeaves 17 = .ok (.iload_n 2, 1) := by decide +kernel
theorem dX1_matchLeaves_18 : decode cX1_matchLeaves 18 = .ok (.invokevirtual 124, 3) := by decide +kernel
theorem dX1_matchLeaves_21 : decode cX1_matchLeaves 21 = .ok (.iconst 4, 1) := by decide +kernel
theorem dX1_matchLeaves_22 : decode cX1_matchLeaves 22 = .ok (.if_icmp .ne 50, 3) := by decide +kernel
theorem dX1_matchLeaves_25 : decode cX1_matchLeaves 25 = .ok (.aload_n 0, 1) := by decide +kernel
theorem dX1_matchLeaves_26 : decode cX1_matchLeaves 26 = .ok (.getfield 58, 3) := by decide +kernel
theorem dX1_matchLeaves_29 : decode cX1_matchLeaves 29 = .ok (.iload_n 1, 1) := by decide +kernel
theorem dX1_matchLeaves_30 : decode cX1_matchLeaves 30 = .ok (.invokevirtual 127, 3) := by decide +kernel
theorem dX1_matchLeaves_33 : decode cX1_matchLeaves 33 = .ok (.istore_n 3, 1) := by decide +kernel
theorem dX1_matchLeaves_34 : decode cX1_matchLeaves 34 = .ok (.aload_n 0, 1) := by decide +kernel
theorem dX1_matchLeaves_35 : decode cX1_matchLeaves 35 = .ok (.getfield 22, 3) := by decide +kernel
theorem dX1_matchLeaves_38 : decode cX1_matchLeaves 38 = .ok (.iload_n 2, 1) := by decide +kernel
theorem dX1_matchLeaves_39 : decode cX1_matchLeaves 39 = .ok (.iload_n 3, 1) := by decide +kernel
theorem dX1_matchLeaves_40 : decode cX1_matchLeaves 40 = .ok (.aload_n 0, 1) := by decide +kernel
theorem dX1_matchLeaves_41 : decode cX1_matchLeaves 41 = .ok (.getfield 66, 3) := by decide +kernel
theorem dX1_matchLeaves_44 : decode cX1_matchLeaves 44 = .ok (.iload_n 2, 1) := by decide +kernel
theorem dX1_matchLeaves_45 : decode cX1_matchLeaves 45 = .ok (.invokevirtual 130, 3) := by decide +kernel
theorem dX1_matchLeaves_48 : decode cX1_matchLeaves 48 = .ok (.if_icmp .lt 19, 3) := by decide +kernel
theorem dX1_matchLeaves_51 : decode cX1_matchLeaves 51 = .ok (.iload_n 3, 1) := by decide +kernel
theorem dX1_matchLeaves_52 : decode cX1_matchLeaves 52 = .ok (.aload_n 0, 1) := by decide +kernel
theorem dX1_matchLeaves_53 : decode cX1_matchLeaves 53 = .ok (.getfield 66, 3) := by decide +kernel
theorem dX1_matchLeaves_56 : decode cX1_matchLeaves 56 = .ok (.iload_n 2, 1) := by decide +kernel
theorem dX1_matchLeaves_57 : decode cX1_matchLeaves 57 = .ok (.invokevirtual 133, 3) := by decide +kernel
theorem dX1_matchLeaves_60 : decode cX1_matchLeaves 60 = .ok (.if_icmp .gt 7, 3) := by decide +kernel
theorem dX1_matchLeaves_63 : decode cX1_matchLeaves 63 = .ok (.iconst 1, 1) := by decide +kernel
theorem dX1_matchLeaves_64 : decode cX1_matchLeaves 64 = .ok (.goto 4, 3) := by decide +kernel
theorem dX1_matchLeaves_67 : decode cX1_matchLeaves 67 = .ok (.iconst 0, 1) := by decide +kernel
theorem dX1_matchLeaves_68 : decode cX1_matchLeaves 68 = .ok (.bastore, 1) := by decide +kernel
theorem dX1_matchLeaves_69 : decode cX1_matchLeaves 69 = .ok (.goto 9, 3) := by decide +kernel
theorem dX1_matchLeaves_72 : decode cX1_matchLeaves 72 = .ok (.aload_n 0, 1) := by decide +kernel
theorem dX1_matchLeaves_73 : decode cX1_matchLeaves 73 = .ok (.iload_n 2, 1) := by decide +kernel
theorem dX1_matchLeaves_74 : decode cX1_matchLeaves 74 = .ok (.iload_n 1, 1) := by decide +kernel
theorem dX1_matchLeaves_75 : decode cX1_matchLeaves 75 = .ok (.invokevirtual 136, 3) := by decide +kernel
theorem dX1_matchLeaves_78 : decode cX1_matchLeaves 78 = .ok (.iinc 2 1, 3) := by decide +kernel
theorem dX1_matchLeaves_81 : decode cX1_matchLeaves 81 = .ok (.goto (-79), 3) := by decide +kernel
theorem dX1_matchLeaves_84 : decode cX1_matchLeaves 84 = .ok (.return_, 1) := by decide +kernel
theorem dX1_matchPlaces_0 : decode cX1_matchPlaces 0 = .ok (.aload_n 0, 1) := by decide +kernel
theorem dX1_matchPlaces_1 : decode cX1_matchPlaces 1 = .ok (.getfield 11, 3) := by decide +kernel
theorem dX1_matchPlaces_4 : decode cX1_matchPlaces 4 = .ok (.iload_n 1, 1) := by decide +kernel
theorem dX1_matchPlaces_5 : decode cX1_matchPlaces 5 = .ok (.aaload, 1) := by decide +kernel
theorem dX1_matchPlaces_6 : decode cX1_matchPlaces 6 = .ok (.astore_n 3, 1) := by decide +kernel
theorem dX1_matchPlaces_7 : decode cX1_matchPlaces 7 = .ok (.iload_n 1, 1) := by decide +kernel
theorem dX1_matchPlaces_8 : decode cX1_matchPlaces 8 = .ok (.bipush 120, 2) := by decide +kernel
theorem dX1_matchPlaces_10 : decode cX1_matchPlaces 10 = .ok (.imul, 1) := by decide +kernel
theorem dX1_matchPlaces_11 : decode cX1_matchPlaces 11 = .ok (.iload_n 2, 1) := by decide +kernel
theorem dX1_matchPlaces_12 : decode cX1_matchPlaces 12 = .ok (.iadd, 1) := by decide +kernel
theorem dX1_matchPlaces_13 : decode cX1_matchPlaces 13 = .ok (.istore 4, 2) := by decide +kernel
theorem dX1_matchPlaces_15 : decode cX1_matchPlaces 15 = .ok (.aload_n 3, 1) := by decide +kernel
theorem dX1_matchPlaces_16 : decode cX1_matchPlaces 16 = .ok (.ifnull 13, 3) := by decide +kernel
theorem dX1_matchPlaces_19 : decode cX1_matchPlaces 19 = .ok (.iload 4, 2) := by decide +kernel
theorem dX1_matchPlaces_21 : decode cX1_matchPlaces 21 = .ok (.aload_n 0, 1) := by decide +kernel
theorem dX1_matchPlaces_22 : decode cX1_matchPlaces 22 = .ok (.getfield 51, 3) := by decide +kernel
theorem dX1_matchPlaces_25 : decode cX1_matchPlaces 25 = .ok (.arraylength, 1) := by decide +kernel
theorem dX1_matchPlaces_26 : decode cX1_matchPlaces 26 = .ok (.if_icmp .lt 4, 3) := by decide +kernel
theorem dX1_matchPlaces_29 : decode cX1_matchPlaces 29 = .ok (.return_, 1) := by decide +kernel
theorem dX1_matchPlaces_30 : decode cX1_matchPlaces 30 = .ok (.aload_n 0, 1) := by decide +kernel
theorem dX1_matchPlaces_31 : decode cX1_matchPlaces 31 = .ok (.getfield 75, 3) := by decide +kernel
theorem dX1_matchPlaces_34 : decode cX1_matchPlaces 34 = .ok (.iload_n 1, 1) := by decide +kernel
theorem dX1_matchPlaces_35 : decode cX1_matchPlaces 35 = .ok (.aload_n 3, 1) := by decide +kernel
theorem dX1_matchPlaces_36 : decode cX1_matchPlaces 36 = .ok (.invokevirtual 140, 3) := by decide +kernel
theorem dX1_matchPlaces_39 : decode cX1_matchPlaces 39 = .ok (.aload_n 0, 1) := by decide +kernel
theorem dX1_matchPlaces_40 : decode cX1_matchPlaces 40 = .ok (.getfield 51, 3) := by decide +kernel
theorem dX1_matchPlaces_43 : decode cX1_matchPlaces 43 = .ok (.iload 4, 2) := by decide +kernel
theorem dX1_matchPlaces_45 : decode cX1_matchPlaces 45 = .ok (.aload_n 3, 1) := by decide +kernel
theorem dX1_matchPlaces_46 : decode cX1_matchPlaces 46 = .ok (.invokevirtual 144, 3) := by decide +kernel
theorem dX1_matchPlaces_49 : decode cX1_matchPlaces 49 = .ok (.iastore, 1) := by decide +kernel
theorem dX1_matchPlaces_50 : decode cX1_matchPlaces 50 = .ok (.aload_n 0, 1) := by decide +kernel
theorem dX1_matchPlaces_51 : decode cX1_matchPlaces 51 = .ok (.getfield 22, 3) := by decide +kernel
theorem dX1_matchPlaces_54 : decode cX1_matchPlaces 54 = .ok (.iload_n 1, 1) := by decide +kernel
theorem dX1_matchPlaces_55 : decode cX1_matchPlaces 55 = .ok (.aload_n 0, 1) := by decide +kernel
theorem dX1_matchPlaces_56 : decode cX1_matchPlaces 56 = .ok (.getfield 51, 3) := by decide +kernel
theorem dX1_matchPlaces_59 : decode cX1_matchPlaces 59 = .ok (.iload 4, 2) := by decide +kernel
theorem dX1_matchPlaces_61 : decode cX1_matchPlaces 61 = .ok (.iaload, 1) := by decide +kernel
theorem dX1_matchPlaces_62 : decode cX1_matchPlaces 62 = .ok (.ifCond .le 7, 3) := by decide +kernel
theorem dX1_matchPlaces_65 : decode cX1_matchPlaces 65 = .ok (.iconst 1, 1) := by decide +kernel
theorem dX1_matchPlaces_66 : decode cX1_matchPlaces 66 = .ok (.goto 4, 3) := by decide +kernel
theorem dX1_matchPlaces_69 : decode cX1_matchPlaces 69 = .ok (.iconst 0, 1) := by decide +kernel
theorem dX1_matchPlaces_70 : decode cX1_matchPlaces 70 = .ok (.bastore, 1) := by decide +kernel
theorem dX1_matchPlaces_71 : decode cX1_matchPlaces 71 = .ok (.aload_n 0, 1) := by decide +kernel
theorem dX1_matchPlaces_72 : decode cX1_matchPlaces 72 = .ok (.getfield 29, 3) := by decide +kernel
theorem dX1_matchPlaces_75 : decode cX1_matchPlaces 75 = .ok (.iload_n 1, 1) := by decide +kernel
theorem dX1_matchPlaces_76 : decode cX1_matchPlaces 76 = .ok (.dup2, 1) := by decide +kernel
theorem dX1_matchPlaces_77 : decode cX1_matchPlaces 77 = .ok (.iaload, 1) := by decide +kernel
theorem dX1_matchPlaces_78 : decode cX1_matchPlaces 78 = .ok (.aload_n 0, 1) := by decide +kernel
theorem dX1_matchPlaces_79 : decode cX1_matchPlaces 79 = .ok (.getfield 22, 3) := by decide +kernel
theorem dX1_matchPlaces_82 : decode cX1_matchPlaces 82 = .ok (.iload_n 1, 1) := by decide +kernel
theorem dX1_matchPlaces_83 : decode cX1_matchPlaces 83 = .ok (.baload, 1) := by decide +kernel
theorem dX1_matchPlaces_84 : decode cX1_matchPlaces 84 = .ok (.ifCond .eq 7, 3) := by decide +kernel
theorem dX1_matchPlaces_87 : decode cX1_matchPlaces 87 = .ok (.iconst 1, 1) := by decide +kernel
theorem dX1_matchPlaces_88 : decode cX1_matchPlaces 88 = .ok (.goto 4, 3) := by decide +kernel
theorem dX1_matchPlaces_91 : decode cX1_matchPlaces 91 = .ok (.iconst 0, 1) := by decide +kernel
theorem dX1_matchPlaces_92 : decode cX1_matchPlaces 92 = .ok (.iadd, 1) := by decide +kernel
theorem dX1_matchPlaces_93 : decode cX1_matchPlaces 93 = .ok (.iastore, 1) := by decide +kernel
theorem dX1_matchPlaces_94 : decode cX1_matchPlaces 94 = .ok (.return_, 1) := by decide +kernel
theorem dX1_works_0 : decode cX1_works 0 = .ok (.iconst 0, 1) := by decide +kernel
theorem dX1_works_1 : decode cX1_works 1 = .ok (.istore_n 1, 1) := by decide +kernel
theorem dX1_works_2 : decode cX1_works 2 = .ok (.iconst (-1), 1) := by decide +kernel
theorem dX1_works_3 : decode cX1_works 3 = .ok (.istore_n 2, 1) := by decide +kernel
theorem dX1_works_4 : decode cX1_works 4 = .ok (.iconst 0, 1) := by decide +kernel
theorem dX1_works_5 : decode cX1_works 5 = .ok (.istore_n 3, 1) := by decide +kernel
theorem dX1_works_6 : decode cX1_works 6 = .ok (.iload_n 3, 1) := by decide +kernel
theorem dX1_works_7 : decode cX1_works 7 = .ok (.aload_n 0, 1) := by decide +kernel
theorem dX1_works_8 : decode cX1_works 8 = .ok (.getfield 66, 3) := by decide +kernel
theorem dX1_works_11 : decode cX1_works 11 = .ok (.invokevirtual 82, 3) := by decide +kernel
theorem dX1_works_14 : decode cX1_works 14 = .ok (.if_icmp .ge 192, 3) := by decide +kernel
theorem dX1_works_17 : decode cX1_works 17 = .ok (.aload_n 0, 1) := by decide +kernel
theorem dX1_works_18 : decode cX1_works 18 = .ok (.getfield 66, 3) := by decide +kernel
theorem dX1_works_21 : decode cX1_works 21 = .ok (.iload_n 3, 1) := by decide +kernel
theorem dX1_works_22 : decode cX1_works 22 = .ok (.invokevirtual 147, 3) := by decide +kernel
theorem dX1_works_25 : decode cX1_works 25 = .ok (.sipush 1000, 3) := by decide +kernel
theorem dX1_works_28 : decode cX1_works 28 = .ok (.idiv, 1) := by decide +kernel
theorem dX1_works_29 : decode cX1_works 29 = .ok (.istore 4, 2) := by decide +kernel
theorem dX1_works_31 : decode cX1_works 31 = .ok (.aload_n 0, 1) := by decide +kernel
theorem dX1_works_32 : decode cX1_works 32 = .ok (.getfield 66, 3) := by decide +kernel
theorem dX1_works_35 : decode cX1_works 35 = .ok (.iload_n 3, 1) := by decide +kernel
theorem dX1_works_36 : decode cX1_works 36 = .ok (.invokevirtual 147, 3) := by decide +kernel
theorem dX1_works_39 : decode cX1_works 39 = .ok (.sipush 1000, 3) := by decide +kernel
theorem dX1_works_42 : decode cX1_works 42 = .ok (.irem, 1) := by decide +kernel
theorem dX1_works_43 : decode cX1_works 43 = .ok (.istore 5, 2) := by decide +kernel
theorem dX1_works_45 : decode cX1_works 45 = .ok (.iload 4, 2) := by decide +kernel
theorem dX1_works_47 : decode cX1_works 47 = .ok (.iconst 4, 1) := by decide +kernel
theorem dX1_works_48 : decode cX1_works 48 = .ok (.if_icmp .gt 37, 3) := by decide +kernel
theorem dX1_works_51 : decode cX1_works 51 = .ok (.iload_n 1, 1) := by decide +kernel
theorem dX1_works_52 : decode cX1_works 52 = .ok (.bipush 40, 2) := by decide +kernel
theorem dX1_works_54 : decode cX1_works 54 = .ok (.if_icmp .ge 31, 3) := by decide +kernel
theorem dX1_works_57 : decode cX1_works 57 = .ok (.iload 5, 2) := by decide +kernel
theorem dX1_works_59 : decode cX1_works 59 = .ok (.bipush 40, 2) := by decide +kernel
theorem dX1_works_61 : decode cX1_works 61 = .ok (.if_icmp .ge 24, 3) := by decide +kernel
theorem dX1_works_64 : decode cX1_works 64 = .ok (.iload 5, 2) := by decide +kernel
theorem dX1_works_66 : decode cX1_works 66 = .ok (.istore_n 2, 1) := by decide +kernel
theorem dX1_works_67 : decode cX1_works 67 = .ok (.aload_n 0, 1) := by decide +kernel
theorem dX1_works_68 : decode cX1_works 68 = .ok (.getfield 26, 3) := by decide +kernel
theorem dX1_works_71 : decode cX1_works 71 = .ok (.iload_n 1, 1) := by decide +kernel
theorem dX1_works_72 : decode cX1_works 72 = .ok (.aload_n 0, 1) := by decide +kernel
theorem dX1_works_73 : decode cX1_works 73 = .ok (.getfield 22, 3) := by decide +kernel
theorem dX1_works_76 : decode cX1_works 76 = .ok (.iload_n 2, 1) := by decide +kernel
theorem dX1_works_77 : decode cX1_works 77 = .ok (.baload, 1) := by decide +kernel
theorem dX1_works_78 : decode cX1_works 78 = .ok (.bastore, 1) := by decide +kernel
theorem dX1_works_79 : decode cX1_works 79 = .ok (.iinc 1 1, 3) := by decide +kernel
theorem dX1_works_82 : decode cX1_works 82 = .ok (.goto 118, 3) := by decide +kernel
theorem dX1_works_85 : decode cX1_works 85 = .ok (.iload 4, 2) := by decide +kernel
theorem dX1_works_87 : decode cX1_works 87 = .ok (.bipush 10, 2) := by decide +kernel
theorem dX1_works_89 : decode cX1_works 89 = .ok (.if_icmp .ne 34, 3) := by decide +kernel
theorem dX1_works_92 : decode cX1_works 92 = .ok (.iload_n 1, 1) := by decide +kernel
theorem dX1_works_93 : decode cX1_works 93 = .ok (.ifCond .le 30, 3) := by decide +kernel
theorem dX1_works_96 : decode cX1_works 96 = .ok (.aload_n 0, 1) := by decide +kernel
theorem dX1_works_97 : decode cX1_works 97 = .ok (.getfield 26, 3) := by decide +kernel
theorem dX1_works_100 : decode cX1_works 100 = .ok (.iload_n 1, 1) := by decide +kernel
theorem dX1_works_101 : decode cX1_works 101 = .ok (.iconst 1, 1) := by decide +kernel
theorem dX1_works_102 : decode cX1_works 102 = .ok (.isub, 1) := by decide +kernel
theorem dX1_works_103 : decode cX1_works 103 = .ok (.aload_n 0, 1) := by decide +kernel
theorem dX1_works_104 : decode cX1_works 104 = .ok (.getfield 26, 3) := by decide +kernel
theorem dX1_works_107 : decode cX1_works 107 = .ok (.iload_n 1, 1) := by decide +kernel
theorem dX1_works_108 : decode cX1_works 108 = .ok (.iconst 1, 1) := by decide +kernel
theorem dX1_works_109 : decode cX1_works 109 = .ok (.isub, 1) := by decide +kernel
theorem dX1_works_110 : decode cX1_works 110 = .ok (.baload, 1) := by decide +kernel
theorem dX1_works_111 : decode cX1_works 111 = .ok (.ifCond .ne 7, 3) := by decide +kernel
theorem dX1_works_114 : decode cX1_works 114 = .ok (.iconst 1, 1) := by decide +kernel
theorem dX1_works_115 : decode cX1_works 115 = .ok (.goto 4, 3) := by decide +kernel
theorem dX1_works_118 : decode cX1_works 118 = .ok (.iconst 0, 1) := by decide +kernel
theorem dX1_works_119 : decode cX1_works 119 = .ok (.bastore, 1) := by decide +kernel
theorem dX1_works_120 : decode cX1_works 120 = .ok (.goto 80, 3) := by decide +kernel
theorem dX1_works_123 : decode cX1_works 123 = .ok (.iload 4, 2) := by decide +kernel
theorem dX1_works_125 : decode cX1_works 125 = .ok (.iconst 5, 1) := by decide +kernel
theorem dX1_works_126 : decode cX1_works 126 = .ok (.if_icmp .ne 32, 3) := by decide +kernel
theorem dX1_works_129 : decode cX1_works 129 = .ok (.iload_n 1, 1) := by decide +kernel
theorem dX1_works_130 : decode cX1_works 130 = .ok (.iconst 1, 1) := by decide +kernel
theorem dX1_works_131 : decode cX1_works 131 = .ok (.if_icmp .le 27, 3) := by decide +kernel
theorem dX1_works_134 : decode cX1_works 134 = .ok (.iinc 1 (-1), 3) := by decide +kernel
theorem dX1_works_137 : decode cX1_works 137 = .ok (.aload_n 0, 1) := by decide +kernel
theorem dX1_works_138 : decode cX1_works 138 = .ok (.getfield 26, 3) := by decide +kernel
theorem dX1_works_141 : decode cX1_works 141 = .ok (.iload_n 1, 1) := by decide +kernel
theorem dX1_works_142 : decode cX1_works 142 = .ok (.iconst 1, 1) := by decide +kernel
theorem dX1_works_143 : decode cX1_works 143 = .ok (.isub, 1) := by decide +kernel
theorem dX1_works_144 : decode cX1_works 144 = .ok (.aload_n 0, 1) := by decide +kernel
theorem dX1_works_145 : decode cX1_works 145 = .ok (.iload_n 2, 1) := by decide +kernel
theorem dX1_works_146 : decode cX1_works 146 = .ok (.iconst 1, 1) := by decide +kernel
theorem dX1_works_147 : decode cX1_works 147 = .ok (.isub, 1) := by decide +kernel
theorem dX1_works_148 : decode cX1_works 148 = .ok (.iload_n 2, 1) := by decide +kernel
theorem dX1_works_149 : decode cX1_works 149 = .ok (.iload 5, 2) := by decide +kernel
theorem dX1_works_151 : decode cX1_works 151 = .ok (.invokevirtual 150, 3) := by decide +kernel
theorem dX1_works_154 : decode cX1_works 154 = .ok (.bastore, 1) := by decide +kernel
theorem dX1_works_155 : decode cX1_works 155 = .ok (.goto 45, 3) := by decide +kernel
theorem dX1_works_158 : decode cX1_works 158 = .ok (.iload 4, 2) := by decide +kernel
theorem dX1_works_160 : decode cX1_works 160 = .ok (.bipush 8, 2) := by decide +kernel
theorem dX1_works_162 : decode cX1_works 162 = .ok (.if_icmp .lt 38, 3) := by decide +kernel
theorem dX1_works_165 : decode cX1_works 165 = .ok (.iload_n 1, 1) := by decide +kernel
theorem dX1_works_166 : decode cX1_works 166 = .ok (.iconst 1, 1) := by decide +kernel
theorem dX1_works_167 : decode cX1_works 167 = .ok (.if_icmp .le 33, 3) := by decide +kernel
theorem dX1_works_170 : decode cX1_works 170 = .ok (.iinc 1 (-1), 3) := by decide +kernel
theorem dX1_works_173 : decode cX1_works 173 = .ok (.aload_n 0, 1) := by decide +kernel
theorem dX1_works_174 : decode cX1_works 174 = .ok (.getfield 26, 3) := by decide +kernel
theorem dX1_works_177 : decode cX1_works 177 = .ok (.iload_n 1, 1) := by decide +kernel
theorem dX1_works_178 : decode cX1_works 178 = .ok (.iconst 1, 1) := by decide +kernel
theorem dX1_works_179 : decode cX1_works 179 = .ok (.isub, 1) := by decide +kernel
theorem dX1_works_180 : decode cX1_works 180 = .ok (.iload 4, 2) := by decide +kernel
theorem dX1_works_182 : decode cX1_works 182 = .ok (.aload_n 0, 1) := by decide +kernel
theorem dX1_works_183 : decode cX1_works 183 = .ok (.getfield 26, 3) := by decide +kernel
theorem dX1_works_186 : decode cX1_works 186 = .ok (.iload_n 1, 1) := by decide +kernel
theorem dX1_works_187 : decode cX1_works 187 = .ok (.iconst 1, 1) := by decide +kernel
theorem dX1_works_188 : decode cX1_works 188 = .ok (.isub, 1) := by decide +kernel
theorem dX1_works_189 : decode cX1_works 189 = .ok (.baload, 1) := by decide +kernel
theorem dX1_works_190 : decode cX1_works 190 = .ok (.aload_n 0, 1) := by decide +kernel
theorem dX1_works_191 : decode cX1_works 191 = .ok (.getfield 26, 3) := by decide +kernel
theorem dX1_works_194 : decode cX1_works 194 = .ok (.iload_n 1, 1) := by decide +kernel
theorem dX1_works_195 : decode cX1_works 195 = .ok (.baload, 1) := by decide +kernel
theorem dX1_works_196 : decode cX1_works 196 = .ok (.invokestatic 154, 3) := by decide +kernel
theorem dX1_works_199 : decode cX1_works 199 = .ok (.bastore, 1) := by decide +kernel
theorem dX1_works_200 : decode cX1_works 200 = .ok (.iinc 3 1, 3) := by decide +kernel
theorem dX1_works_203 : decode cX1_works 203 = .ok (.goto (-197), 3) := by decide +kernel
theorem dX1_works_206 : decode cX1_works 206 = .ok (.iload_n 1, 1) := by decide +kernel
theorem dX1_works_207 : decode cX1_works 207 = .ok (.iconst 1, 1) := by decide +kernel
theorem dX1_works_208 : decode cX1_works 208 = .ok (.if_icmp .ne 16, 3) := by decide +kernel
theorem dX1_works_211 : decode cX1_works 211 = .ok (.aload_n 0, 1) := by decide +kernel
theorem dX1_works_212 : decode cX1_works 212 = .ok (.getfield 26, 3) := by decide +kernel
theorem dX1_works_215 : decode cX1_works 215 = .ok (.iconst 0, 1) := by decide +kernel
theorem dX1_works_216 : decode cX1_works 216 = .ok (.baload, 1) := by decide +kernel
theorem dX1_works_217 : decode cX1_works 217 = .ok (.ifCond .eq 7, 3) := by decide +kernel
theorem dX1_works_220 : decode cX1_works 220 = .ok (.iconst 1, 1) := by decide +kernel
theorem dX1_works_221 : decode cX1_works 221 = .ok (.goto 4, 3) := by decide +kernel
theorem dX1_works_224 : decode cX1_works 224 = .ok (.iconst 0, 1) := by decide +kernel
theorem dX1_works_225 : decode cX1_works 225 = .ok (.ireturn, 1) := by decide +kernel
theorem dX1_areNear_0 : decode cX1_areNear 0 = .ok (.iload_n 1, 1) := by decide +kernel
theorem dX1_areNear_1 : decode cX1_areNear 1 = .ok (.ifCond .lt 27, 3) := by decide +kernel
theorem dX1_areNear_4 : decode cX1_areNear 4 = .ok (.iload_n 2, 1) := by decide +kernel
theorem dX1_areNear_5 : decode cX1_areNear 5 = .ok (.bipush 40, 2) := by decide +kernel
theorem dX1_areNear_7 : decode cX1_areNear 7 = .ok (.if_icmp .ge 21, 3) := by decide +kernel
theorem dX1_areNear_10 : decode cX1_areNear 10 = .ok (.aload_n 0, 1) := by decide +kernel
theorem dX1_areNear_11 : decode cX1_areNear 11 = .ok (.getfield 11, 3) := by decide +kernel
theorem dX1_areNear_14 : decode cX1_areNear 14 = .ok (.iload_n 1, 1) := by decide +kernel
theorem dX1_areNear_15 : decode cX1_areNear 15 = .ok (.aaload, 1) := by decide +kernel
theorem dX1_areNear_16 : decode cX1_areNear 16 = .ok (.ifnull 12, 3) := by decide +kernel
theorem dX1_areNear_19 : decode cX1_areNear 19 = .ok (.aload_n 0, 1) := by decide +kernel
theorem dX1_areNear_20 : decode cX1_areNear 20 = .ok (.getfield 11, 3) := by decide +kernel
theorem dX1_areNear_23 : decode cX1_areNear 23 = .ok (.iload_n 2, 1) := by decide +kernel
theorem dX1_areNear_24 : decode cX1_areNear 24 = .ok (.aaload, 1) := by decide +kernel
theorem dX1_areNear_25 : decode cX1_areNear 25 = .ok (.ifnonnull 5, 3) := by decide +kernel
theorem dX1_areNear_28 : decode cX1_areNear 28 = .ok (.iconst 0, 1) := by decide +kernel
theorem dX1_areNear_29 : decode cX1_areNear 29 = .ok (.ireturn, 1) := by decide +kernel
theorem dX1_areNear_30 : decode cX1_areNear 30 = .ok (.aload_n 0, 1) := by decide +kernel
theorem dX1_areNear_31 : decode cX1_areNear 31 = .ok (.getfield 11, 3) := by decide +kernel
theorem dX1_areNear_34 : decode cX1_areNear 34 = .ok (.iload_n 1, 1) := by decide +kernel
theorem dX1_areNear_35 : decode cX1_areNear 35 = .ok (.aaload, 1) := by decide +kernel
theorem dX1_areNear_36 : decode cX1_areNear 36 = .ok (.aload_n 0, 1) := by decide +kernel
theorem dX1_areNear_37 : decode cX1_areNear 37 = .ok (.getfield 11, 3) := by decide +kernel
theorem dX1_areNear_40 : decode cX1_areNear 40 = .ok (.iload_n 2, 1) := by decide +kernel
theorem dX1_areNear_41 : decode cX1_areNear 41 = .ok (.aaload, 1) := by decide +kernel
theorem dX1_areNear_42 : decode cX1_areNear 42 = .ok (.iload_n 3, 1) := by decide +kernel
theorem dX1_areNear_43 : decode cX1_areNear 43 = .ok (.invokevirtual 158, 3) := by decide +kernel
theorem dX1_areNear_46 : decode cX1_areNear 46 = .ok (.ireturn, 1) := by decide +kernel
theorem dX1_joined_0 : decode cX1_joined 0 = .ok (.iload_n 0, 1) := by decide +kernel
theorem dX1_joined_1 : decode cX1_joined 1 = .ok (.lookupswitch 55 #[(8, 27), (9, 41)], 27) := by decide +kernel
theorem dX1_joined_28 : decode cX1_joined 28 = .ok (.iload_n 1, 1) := by decide +kernel
theorem dX1_joined_29 : decode cX1_joined 29 = .ok (.ifCond .eq 11, 3) := by decide +kernel
theorem dX1_joined_32 : decode cX1_joined 32 = .ok (.iload_n 2, 1) := by decide +kernel
theorem dX1_joined_33 : decode cX1_joined 33 = .ok (.ifCond .eq 7, 3) := by decide +kernel
theorem dX1_joined_36 : decode cX1_joined 36 = .ok (.iconst 1, 1) := by decide +kernel
theorem dX1_joined_37 : decode cX1_joined 37 = .ok (.goto 4, 3) := by decide +kernel
theorem dX1_joined_40 : decode cX1_joined 40 = .ok (.iconst 0, 1) := by decide +kernel
theorem dX1_joined_41 : decode cX1_joined 41 = .ok (.ireturn, 1) := by decide +kernel
theorem dX1_joined_42 : decode cX1_joined 42 = .ok (.iload_n 1, 1) := by decide +kernel
theorem dX1_joined_43 : decode cX1_joined 43 = .ok (.ifCond .ne 7, 3) := by decide +kernel
theorem dX1_joined_46 : decode cX1_joined 46 = .ok (.iload_n 2, 1) := by decide +kernel
theorem dX1_joined_47 : decode cX1_joined 47 = .ok (.ifCond .eq 7, 3) := by decide +kernel
theorem dX1_joined_50 : decode cX1_joined 50 = .ok (.iconst 1, 1) := by decide +kernel
theorem dX1_joined_51 : decode cX1_joined 51 = .ok (.goto 4, 3) := by decide +kernel
theorem dX1_joined_54 : decode cX1_joined 54 = .ok (.iconst 0, 1) := by decide +kernel
theorem dX1_joined_55 : decode cX1_joined 55 = .ok (.ireturn, 1) := by decide +kernel
theorem dX1_joined_56 : decode cX1_joined 56 = .ok (.iload_n 1, 1) := by decide +kernel
theorem dX1_joined_57 : decode cX1_joined 57 = .ok (.ifCond .eq 11, 3) := by decide +kernel
theorem dX1_joined_60 : decode cX1_joined 60 = .ok (.iload_n 2, 1) := by decide +kernel
theorem dX1_joined_61 : decode cX1_joined 61 = .ok (.ifCond .ne 7, 3) := by decide +kernel
theorem dX1_joined_64 : decode cX1_joined 64 = .ok (.iconst 1, 1) := by decide +kernel
theorem dX1_joined_65 : decode cX1_joined 65 = .ok (.goto 4, 3) := by decide +kernel
theorem dX1_joined_68 : decode cX1_joined 68 = .ok (.iconst 0, 1) := by decide +kernel
theorem dX1_joined_69 : decode cX1_joined 69 = .ok (.ireturn, 1) := by decide +kernel
theorem dX1_keep_0 : decode cX1_keep 0 = .ok (.aload_n 0, 1) := by decide +kernel
theorem dX1_keep_1 : decode cX1_keep 1 = .ok (.getfield 54, 3) := by decide +kernel
theorem dX1_keep_4 : decode cX1_keep 4 = .ok (.bipush 120, 2) := by decide +kernel
theorem dX1_keep_6 : decode cX1_keep 6 = .ok (.if_icmp .lt 4, 3) := by decide +kernel
theorem dX1_keep_9 : decode cX1_keep 9 = .ok (.return_, 1) := by decide +kernel
theorem dX1_keep_10 : decode cX1_keep 10 = .ok (.aload_n 0, 1) := by decide +kernel
theorem dX1_keep_11 : decode cX1_keep 11 = .ok (.getfield 18, 3) := by decide +kernel
theorem dX1_keep_14 : decode cX1_keep 14 = .ok (.invokevirtual 162, 3) := by decide +kernel
theorem dX1_keep_17 : decode cX1_keep 17 = .ok (.iconst 0, 1) := by decide +kernel
theorem dX1_keep_18 : decode cX1_keep 18 = .ok (.istore_n 2, 1) := by decide +kernel
theorem dX1_keep_19 : decode cX1_keep 19 = .ok (.iload_n 2, 1) := by decide +kernel
theorem dX1_keep_20 : decode cX1_keep 20 = .ok (.aload_n 0, 1) := by decide +kernel
theorem dX1_keep_21 : decode cX1_keep 21 = .ok (.getfield 66, 3) := by decide +kernel
theorem dX1_keep_24 : decode cX1_keep 24 = .ok (.invokevirtual 121, 3) := by decide +kernel
theorem dX1_keep_27 : decode cX1_keep 27 = .ok (.if_icmp .ge 42, 3) := by decide +kernel
theorem dX1_keep_30 : decode cX1_keep 30 = .ok (.aload_n 0, 1) := by decide +kernel
theorem dX1_keep_31 : decode cX1_keep 31 = .ok (.getfield 66, 3) := by decide +kernel
theorem dX1_keep_34 : decode cX1_keep 34 = .ok (.iload_n 2, 1) := by decide +kernel
theorem dX1_keep_35 : decode cX1_keep 35 = .ok (.invokevirtual 165, 3) := by decide +kernel
theorem dX1_keep_38 : decode cX1_keep 38 = .ok (.ifCond .eq 25, 3) := by decide +kernel
theorem dX1_keep_41 : decode cX1_keep 41 = .ok (.aload_n 0, 1) := by decide +kernel
theorem dX1_keep_42 : decode cX1_keep 42 = .ok (.getfield 11, 3) := by decide +kernel
theorem dX1_keep_45 : decode cX1_keep 45 = .ok (.iload_n 2, 1) := by decide +kernel
theorem dX1_keep_46 : decode cX1_keep 46 = .ok (.aaload, 1) := by decide +kernel
theorem dX1_keep_47 : decode cX1_keep 47 = .ok (.ifnull 16, 3) := by decide +kernel
theorem dX1_keep_50 : decode cX1_keep 50 = .ok (.aload_n 0, 1) := by decide +kernel
theorem dX1_keep_51 : decode cX1_keep 51 = .ok (.getfield 18, 3) := by decide +kernel
theorem dX1_keep_54 : decode cX1_keep 54 = .ok (.aload_n 0, 1) := by decide +kernel
theorem dX1_keep_55 : decode cX1_keep 55 = .ok (.getfield 11, 3) := by decide +kernel
theorem dX1_keep_58 : decode cX1_keep 58 = .ok (.iload_n 2, 1) := by decide +kernel
theorem dX1_keep_59 : decode cX1_keep 59 = .ok (.aaload, 1) := by decide +kernel
theorem dX1_keep_60 : decode cX1_keep 60 = .ok (.invokevirtual 168, 3) := by decide +kernel
theorem dX1_keep_63 : decode cX1_keep 63 = .ok (.iinc 2 1, 3) := by decide +kernel
theorem dX1_keep_66 : decode cX1_keep 66 = .ok (.goto (-47), 3) := by decide +kernel
theorem dX1_keep_69 : decode cX1_keep 69 = .ok (.aload_n 0, 1) := by decide +kernel
theorem dX1_keep_70 : decode cX1_keep 70 = .ok (.getfield 33, 3) := by decide +kernel
theorem dX1_keep_73 : decode cX1_keep 73 = .ok (.aload_n 0, 1) := by decide +kernel
theorem dX1_keep_74 : decode cX1_keep 74 = .ok (.getfield 54, 3) := by decide +kernel
theorem dX1_keep_77 : decode cX1_keep 77 = .ok (.iload_n 1, 1) := by decide +kernel
theorem dX1_keep_78 : decode cX1_keep 78 = .ok (.iastore, 1) := by decide +kernel
theorem dX1_keep_79 : decode cX1_keep 79 = .ok (.aload_n 0, 1) := by decide +kernel
theorem dX1_keep_80 : decode cX1_keep 80 = .ok (.getfield 36, 3) := by decide +kernel
theorem dX1_keep_83 : decode cX1_keep 83 = .ok (.aload_n 0, 1) := by decide +kernel
theorem dX1_keep_84 : decode cX1_keep 84 = .ok (.getfield 54, 3) := by decide +kernel
theorem dX1_keep_87 : decode cX1_keep 87 = .ok (.aload_n 0, 1) := by decide +kernel
theorem dX1_keep_88 : decode cX1_keep 88 = .ok (.getfield 18, 3) := by decide +kernel
theorem dX1_keep_91 : decode cX1_keep 91 = .ok (.invokevirtual 172, 3) := by decide +kernel
theorem dX1_keep_94 : decode cX1_keep 94 = .ok (.iastore, 1) := by decide +kernel
theorem dX1_keep_95 : decode cX1_keep 95 = .ok (.aload_n 0, 1) := by decide +kernel
theorem dX1_keep_96 : decode cX1_keep 96 = .ok (.dup, 1) := by decide +kernel
theorem dX1_keep_97 : decode cX1_keep 97 = .ok (.getfield 54, 3) := by decide +kernel
theorem dX1_keep_100 : decode cX1_keep 100 = .ok (.iconst 1, 1) := by decide +kernel
theorem dX1_keep_101 : decode cX1_keep 101 = .ok (.iadd, 1) := by decide +kernel
theorem dX1_keep_102 : decode cX1_keep 102 = .ok (.putfield 54, 3) := by decide +kernel
theorem dX1_keep_105 : decode cX1_keep 105 = .ok (.return_, 1) := by decide +kernel
theorem dX1_score_0 : decode cX1_score 0 = .ok (.iconst 0, 1) := by decide +kernel
theorem dX1_score_1 : decode cX1_score 1 = .ok (.istore_n 2, 1) := by decide +kernel
theorem dX1_score_2 : decode cX1_score 2 = .ok (.iconst 0, 1) := by decide +kernel
theorem dX1_score_3 : decode cX1_score 3 = .ok (.istore_n 3, 1) := by decide +kernel
theorem dX1_score_4 : decode cX1_score 4 = .ok (.iload_n 3, 1) := by decide +kernel
theorem dX1_score_5 : decode cX1_score 5 = .ok (.aload_n 0, 1) := by decide +kernel
theorem dX1_score_6 : decode cX1_score 6 = .ok (.getfield 66, 3) := by decide +kernel
theorem dX1_score_9 : decode cX1_score 9 = .ok (.invokevirtual 121, 3) := by decide +kernel
theorem dX1_score_12 : decode cX1_score 12 = .ok (.if_icmp .ge 93, 3) := by decide +kernel
theorem dX1_score_15 : decode cX1_score 15 = .ok (.iload_n 3, 1) := by decide +kernel
theorem dX1_score_16 : decode cX1_score 16 = .ok (.bipush 120, 2) := by decide +kernel
theorem dX1_score_18 : decode cX1_score 18 = .ok (.imul, 1) := by decide +kernel
theorem dX1_score_19 : decode cX1_score 19 = .ok (.iload_n 1, 1) := by decide +kernel
theorem dX1_score_20 : decode cX1_score 20 = .ok (.iadd, 1) := by decide +kernel
theorem dX1_score_21 : decode cX1_score 21 = .ok (.istore 4, 2) := by decide +kernel
theorem dX1_score_23 : decode cX1_score 23 = .ok (.aload_n 0, 1) := by decide +kernel
theorem dX1_score_24 : decode cX1_score 24 = .ok (.getfield 66, 3) := by decide +kernel
theorem dX1_score_27 : decode cX1_score 27 = .ok (.iload_n 3, 1) := by decide +kernel
theorem dX1_score_28 : decode cX1_score 28 = .ok (.invokevirtual 165, 3) := by decide +kernel
theorem dX1_score_31 : decode cX1_score 31 = .ok (.ifCond .eq 68, 3) := by decide +kernel
theorem dX1_score_34 : decode cX1_score 34 = .ok (.iload 4, 2) := by decide +kernel
theorem dX1_score_36 : decode cX1_score 36 = .ok (.aload_n 0, 1) := by decide +kernel
theorem dX1_score_37 : decode cX1_score 37 = .ok (.getfield 51, 3) := by decide +kernel
theorem dX1_score_40 : decode cX1_score 40 = .ok (.arraylength, 1) := by decide +kernel
theorem dX1_score_41 : decode cX1_score 41 = .ok (.if_icmp .ge 58, 3) := by decide +kernel
theorem dX1_score_44 : decode cX1_score 44 = .ok (.aload_n 0, 1) := by decide +kernel
theorem dX1_score_45 : decode cX1_score 45 = .ok (.getfield 51, 3) := by decide +kernel
theorem dX1_score_48 : decode cX1_score 48 = .ok (.iload 4, 2) := by decide +kernel
theorem dX1_score_50 : decode cX1_score 50 = .ok (.iaload, 1) := by decide +kernel
theorem dX1_score_51 : decode cX1_score 51 = .ok (.istore 5, 2) := by decide +kernel
theorem dX1_score_53 : decode cX1_score 53 = .ok (.bipush 100, 2) := by decide +kernel
theorem dX1_score_55 : decode cX1_score 55 = .ok (.iload 5, 2) := by decide +kernel
theorem dX1_score_57 : decode cX1_score 57 = .ok (.imul, 1) := by decide +kernel
theorem dX1_score_58 : decode cX1_score 58 = .ok (.iload 5, 2) := by decide +kernel
theorem dX1_score_60 : decode cX1_score 60 = .ok (.iconst 1, 1) := by decide +kernel
theorem dX1_score_61 : decode cX1_score 61 = .ok (.iadd, 1) := by decide +kernel
theorem dX1_score_62 : decode cX1_score 62 = .ok (.aload_n 0, 1) := by decide +kernel
theorem dX1_score_63 : decode cX1_score 63 = .ok (.getfield 58, 3) := by decide +kernel
theorem dX1_score_66 : decode cX1_score 66 = .ok (.iload_n 1, 1) := by decide +kernel
theorem dX1_score_67 : decode cX1_score 67 = .ok (.invokevirtual 175, 3) := by decide +kernel
theorem dX1_score_70 : decode cX1_score 70 = .ok (.bipush 8, 2) := by decide +kernel
theorem dX1_score_72 : decode cX1_score 72 = .ok (.idiv, 1) := by decide +kernel
theorem dX1_score_73 : decode cX1_score 73 = .ok (.iadd, 1) := by decide +kernel
theorem dX1_score_74 : decode cX1_score 74 = .ok (.idiv, 1) := by decide +kernel
theorem dX1_score_75 : decode cX1_score 75 = .ok (.istore 6, 2) := by decide +kernel
theorem dX1_score_77 : decode cX1_score 77 = .ok (.iload_n 2, 1) := by decide +kernel
theorem dX1_score_78 : decode cX1_score 78 = .ok (.iload 6, 2) := by decide +kernel
theorem dX1_score_80 : decode cX1_score 80 = .ok (.aload_n 0, 1) := by decide +kernel
theorem dX1_score_81 : decode cX1_score 81 = .ok (.getfield 58, 3) := by decide +kernel
theorem dX1_score_84 : decode cX1_score 84 = .ok (.invokevirtual 178, 3) := by decide +kernel
theorem dX1_score_87 : decode cX1_score 87 = .ok (.aload_n 0, 1) := by decide +kernel
theorem dX1_score_88 : decode cX1_score 88 = .ok (.getfield 29, 3) := by decide +kernel
theorem dX1_score_91 : decode cX1_score 91 = .ok (.iload_n 3, 1) := by decide +kernel
theorem dX1_score_92 : decode cX1_score 92 = .ok (.iaload, 1) := by decide +kernel
theorem dX1_score_93 : decode cX1_score 93 = .ok (.invokestatic 181, 3) := by decide +kernel
theorem dX1_score_96 : decode cX1_score 96 = .ok (.imul, 1) := by decide +kernel
theorem dX1_score_97 : decode cX1_score 97 = .ok (.iadd, 1) := by decide +kernel
theorem dX1_score_98 : decode cX1_score 98 = .ok (.istore_n 2, 1) := by decide +kernel
theorem dX1_score_99 : decode cX1_score 99 = .ok (.iinc 3 1, 3) := by decide +kernel
