theorem dX3_gather_46 : decode cX3_gather 46 = .ok (.goto 36, 3) := by decide +kernel
theorem dX3_gather_49 : decode cX3_gather 49 = .ok (.aload_n 0, 1) := by decide +kernel
theorem dX3_gather_50 : decode cX3_gather 50 = .ok (.getfield 46, 3) := by decide +kernel
theorem dX3_gather_53 : decode cX3_gather 53 = .ok (.iload_n 1, 1) := by decide +kernel
theorem dX3_gather_54 : decode cX3_gather 54 = .ok (.invokevirtual 62, 3) := by decide +kernel
theorem dX3_gather_57 : decode cX3_gather 57 = .ok (.iconst 4, 1) := by decide +kernel
theorem dX3_gather_58 : decode cX3_gather 58 = .ok (.if_icmp .eq 24, 3) := by decide +kernel
theorem dX3_gather_61 : decode cX3_gather 61 = .ok (.aload_n 0, 1) := by decide +kernel
theorem dX3_gather_62 : decode cX3_gather 62 = .ok (.aload_n 0, 1) := by decide +kernel
theorem dX3_gather_63 : decode cX3_gather 63 = .ok (.getfield 46, 3) := by decide +kernel
theorem dX3_gather_66 : decode cX3_gather 66 = .ok (.iload_n 1, 1) := by decide +kernel
theorem dX3_gather_67 : decode cX3_gather 67 = .ok (.invokevirtual 66, 3) := by decide +kernel
theorem dX3_gather_70 : decode cX3_gather 70 = .ok (.aload_n 0, 1) := by decide +kernel
theorem dX3_gather_71 : decode cX3_gather 71 = .ok (.getfield 46, 3) := by decide +kernel
theorem dX3_gather_74 : decode cX3_gather 74 = .ok (.iload_n 1, 1) := by decide +kernel
theorem dX3_gather_75 : decode cX3_gather 75 = .ok (.invokevirtual 69, 3) := by decide +kernel
theorem dX3_gather_78 : decode cX3_gather 78 = .ok (.aload_n 2, 1) := by decide +kernel
theorem dX3_gather_79 : decode cX3_gather 79 = .ok (.invokevirtual 119, 3) := by decide +kernel
theorem dX3_gather_82 : decode cX3_gather 82 = .ok (.iload_n 3, 1) := by decide +kernel
theorem dX3_gather_83 : decode cX3_gather 83 = .ok (.iconst 1, 1) := by decide +kernel
theorem dX3_gather_84 : decode cX3_gather 84 = .ok (.iand, 1) := by decide +kernel
theorem dX3_gather_85 : decode cX3_gather 85 = .ok (.ifCond .ne 7, 3) := by decide +kernel
theorem dX3_gather_88 : decode cX3_gather 88 = .ok (.aload_n 2, 1) := by decide +kernel
theorem dX3_gather_89 : decode cX3_gather 89 = .ok (.invokevirtual 122, 3) := by decide +kernel
theorem dX3_gather_92 : decode cX3_gather 92 = .ok (.iload_n 3, 1) := by decide +kernel
theorem dX3_gather_93 : decode cX3_gather 93 = .ok (.iconst 2, 1) := by decide +kernel
theorem dX3_gather_94 : decode cX3_gather 94 = .ok (.iand, 1) := by decide +kernel
theorem dX3_gather_95 : decode cX3_gather 95 = .ok (.ifCond .ne 7, 3) := by decide +kernel
theorem dX3_gather_98 : decode cX3_gather 98 = .ok (.aload_n 2, 1) := by decide +kernel
theorem dX3_gather_99 : decode cX3_gather 99 = .ok (.invokevirtual 125, 3) := by decide +kernel
theorem dX3_gather_102 : decode cX3_gather 102 = .ok (.return_, 1) := by decide +kernel
theorem dX3_gatherWords_0 : decode cX3_gatherWords 0 = .ok (.iconst 0, 1) := by decide +kernel
theorem dX3_gatherWords_1 : decode cX3_gatherWords 1 = .ok (.istore 4, 2) := by decide +kernel
theorem dX3_gatherWords_3 : decode cX3_gatherWords 3 = .ok (.iload 4, 2) := by decide +kernel
theorem dX3_gatherWords_5 : decode cX3_gatherWords 5 = .ok (.aload_n 0, 1) := by decide +kernel
theorem dX3_gatherWords_6 : decode cX3_gatherWords 6 = .ok (.getfield 35, 3) := by decide +kernel
theorem dX3_gatherWords_9 : decode cX3_gatherWords 9 = .ok (.if_icmp .ge 45, 3) := by decide +kernel
theorem dX3_gatherWords_12 : decode cX3_gatherWords 12 = .ok (.aload_n 0, 1) := by decide +kernel
theorem dX3_gatherWords_13 : decode cX3_gatherWords 13 = .ok (.aload_n 0, 1) := by decide +kernel
theorem dX3_gatherWords_14 : decode cX3_gatherWords 14 = .ok (.getfield 28, 3) := by decide +kernel
theorem dX3_gatherWords_17 : decode cX3_gatherWords 17 = .ok (.iload 4, 2) := by decide +kernel
theorem dX3_gatherWords_19 : decode cX3_gatherWords 19 = .ok (.iaload, 1) := by decide +kernel
theorem dX3_gatherWords_20 : decode cX3_gatherWords 20 = .ok (.invokevirtual 128, 3) := by decide +kernel
theorem dX3_gatherWords_23 : decode cX3_gatherWords 23 = .ok (.istore 5, 2) := by decide +kernel
theorem dX3_gatherWords_25 : decode cX3_gatherWords 25 = .ok (.iload 5, 2) := by decide +kernel
theorem dX3_gatherWords_27 : decode cX3_gatherWords 27 = .ok (.iload_n 1, 1) := by decide +kernel
theorem dX3_gatherWords_28 : decode cX3_gatherWords 28 = .ok (.if_icmp .lt 20, 3) := by decide +kernel
theorem dX3_gatherWords_31 : decode cX3_gatherWords 31 = .ok (.iload 5, 2) := by decide +kernel
theorem dX3_gatherWords_33 : decode cX3_gatherWords 33 = .ok (.iload_n 2, 1) := by decide +kernel
theorem dX3_gatherWords_34 : decode cX3_gatherWords 34 = .ok (.if_icmp .ge 14, 3) := by decide +kernel
theorem dX3_gatherWords_37 : decode cX3_gatherWords 37 = .ok (.aload_n 3, 1) := by decide +kernel
theorem dX3_gatherWords_38 : decode cX3_gatherWords 38 = .ok (.aload_n 0, 1) := by decide +kernel
theorem dX3_gatherWords_39 : decode cX3_gatherWords 39 = .ok (.getfield 28, 3) := by decide +kernel
theorem dX3_gatherWords_42 : decode cX3_gatherWords 42 = .ok (.iload 4, 2) := by decide +kernel
theorem dX3_gatherWords_44 : decode cX3_gatherWords 44 = .ok (.iaload, 1) := by decide +kernel
theorem dX3_gatherWords_45 : decode cX3_gatherWords 45 = .ok (.invokevirtual 131, 3) := by decide +kernel
theorem dX3_gatherWords_48 : decode cX3_gatherWords 48 = .ok (.iinc 4 1, 3) := by decide +kernel
theorem dX3_gatherWords_51 : decode cX3_gatherWords 51 = .ok (.goto (-48), 3) := by decide +kernel
theorem dX3_gatherWords_54 : decode cX3_gatherWords 54 = .ok (.return_, 1) := by decide +kernel
theorem dX3_gatherPhrase_0 : decode cX3_gatherPhrase 0 = .ok (.iload_n 1, 1) := by decide +kernel
theorem dX3_gatherPhrase_1 : decode cX3_gatherPhrase 1 = .ok (.istore 4, 2) := by decide +kernel
theorem dX3_gatherPhrase_3 : decode cX3_gatherPhrase 3 = .ok (.iload 4, 2) := by decide +kernel
theorem dX3_gatherPhrase_5 : decode cX3_gatherPhrase 5 = .ok (.iload_n 2, 1) := by decide +kernel
theorem dX3_gatherPhrase_6 : decode cX3_gatherPhrase 6 = .ok (.if_icmp .ge 23, 3) := by decide +kernel
theorem dX3_gatherPhrase_9 : decode cX3_gatherPhrase 9 = .ok (.aload_n 0, 1) := by decide +kernel
theorem dX3_gatherPhrase_10 : decode cX3_gatherPhrase 10 = .ok (.getfield 46, 3) := by decide +kernel
theorem dX3_gatherPhrase_13 : decode cX3_gatherPhrase 13 = .ok (.iload 4, 2) := by decide +kernel
theorem dX3_gatherPhrase_15 : decode cX3_gatherPhrase 15 = .ok (.invokevirtual 72, 3) := by decide +kernel
theorem dX3_gatherPhrase_18 : decode cX3_gatherPhrase 18 = .ok (.bipush (-2), 2) := by decide +kernel
theorem dX3_gatherPhrase_20 : decode cX3_gatherPhrase 20 = .ok (.if_icmp .ne 9, 3) := by decide +kernel
theorem dX3_gatherPhrase_23 : decode cX3_gatherPhrase 23 = .ok (.iinc 4 1, 3) := by decide +kernel
theorem dX3_gatherPhrase_26 : decode cX3_gatherPhrase 26 = .ok (.goto (-23), 3) := by decide +kernel
theorem dX3_gatherPhrase_29 : decode cX3_gatherPhrase 29 = .ok (.iconst 0, 1) := by decide +kernel
theorem dX3_gatherPhrase_30 : decode cX3_gatherPhrase 30 = .ok (.istore 5, 2) := by decide +kernel
theorem dX3_gatherPhrase_32 : decode cX3_gatherPhrase 32 = .ok (.iload 4, 2) := by decide +kernel
theorem dX3_gatherPhrase_34 : decode cX3_gatherPhrase 34 = .ok (.iload_n 2, 1) := by decide +kernel
theorem dX3_gatherPhrase_35 : decode cX3_gatherPhrase 35 = .ok (.if_icmp .ge 86, 3) := by decide +kernel
theorem dX3_gatherPhrase_38 : decode cX3_gatherPhrase 38 = .ok (.iload 5, 2) := by decide +kernel
theorem dX3_gatherPhrase_40 : decode cX3_gatherPhrase 40 = .ok (.aload_n 0, 1) := by decide +kernel
theorem dX3_gatherPhrase_41 : decode cX3_gatherPhrase 41 = .ok (.getfield 35, 3) := by decide +kernel
theorem dX3_gatherPhrase_44 : decode cX3_gatherPhrase 44 = .ok (.if_icmp .ge 77, 3) := by decide +kernel
theorem dX3_gatherPhrase_47 : decode cX3_gatherPhrase 47 = .ok (.aload_n 0, 1) := by decide +kernel
theorem dX3_gatherPhrase_48 : decode cX3_gatherPhrase 48 = .ok (.getfield 28, 3) := by decide +kernel
theorem dX3_gatherPhrase_51 : decode cX3_gatherPhrase 51 = .ok (.iload 5, 2) := by decide +kernel
theorem dX3_gatherPhrase_53 : decode cX3_gatherPhrase 53 = .ok (.iaload, 1) := by decide +kernel
theorem dX3_gatherPhrase_54 : decode cX3_gatherPhrase 54 = .ok (.iload 4, 2) := by decide +kernel
theorem dX3_gatherPhrase_56 : decode cX3_gatherPhrase 56 = .ok (.iload_n 1, 1) := by decide +kernel
theorem dX3_gatherPhrase_57 : decode cX3_gatherPhrase 57 = .ok (.isub, 1) := by decide +kernel
theorem dX3_gatherPhrase_58 : decode cX3_gatherPhrase 58 = .ok (.isub, 1) := by decide +kernel
theorem dX3_gatherPhrase_59 : decode cX3_gatherPhrase 59 = .ok (.istore 6, 2) := by decide +kernel
theorem dX3_gatherPhrase_61 : decode cX3_gatherPhrase 61 = .ok (.iload 6, 2) := by decide +kernel
theorem dX3_gatherPhrase_63 : decode cX3_gatherPhrase 63 = .ok (.aload_n 0, 1) := by decide +kernel
theorem dX3_gatherPhrase_64 : decode cX3_gatherPhrase 64 = .ok (.getfield 28, 3) := by decide +kernel
theorem dX3_gatherPhrase_67 : decode cX3_gatherPhrase 67 = .ok (.iload 5, 2) := by decide +kernel
theorem dX3_gatherPhrase_69 : decode cX3_gatherPhrase 69 = .ok (.iaload, 1) := by decide +kernel
theorem dX3_gatherPhrase_70 : decode cX3_gatherPhrase 70 = .ok (.sipush 512, 3) := by decide +kernel
theorem dX3_gatherPhrase_73 : decode cX3_gatherPhrase 73 = .ok (.if_icmp .ge 7, 3) := by decide +kernel
theorem dX3_gatherPhrase_76 : decode cX3_gatherPhrase 76 = .ok (.iconst 0, 1) := by decide +kernel
theorem dX3_gatherPhrase_77 : decode cX3_gatherPhrase 77 = .ok (.goto 6, 3) := by decide +kernel
theorem dX3_gatherPhrase_80 : decode cX3_gatherPhrase 80 = .ok (.sipush 512, 3) := by decide +kernel
theorem dX3_gatherPhrase_83 : decode cX3_gatherPhrase 83 = .ok (.if_icmp .lt 7, 3) := by decide +kernel
theorem dX3_gatherPhrase_86 : decode cX3_gatherPhrase 86 = .ok (.iconst 1, 1) := by decide +kernel
theorem dX3_gatherPhrase_87 : decode cX3_gatherPhrase 87 = .ok (.goto 4, 3) := by decide +kernel
theorem dX3_gatherPhrase_90 : decode cX3_gatherPhrase 90 = .ok (.iconst 0, 1) := by decide +kernel
theorem dX3_gatherPhrase_91 : decode cX3_gatherPhrase 91 = .ok (.istore 7, 2) := by decide +kernel
theorem dX3_gatherPhrase_93 : decode cX3_gatherPhrase 93 = .ok (.iload 7, 2) := by decide +kernel
theorem dX3_gatherPhrase_95 : decode cX3_gatherPhrase 95 = .ok (.ifCond .eq 20, 3) := by decide +kernel
theorem dX3_gatherPhrase_98 : decode cX3_gatherPhrase 98 = .ok (.aload_n 0, 1) := by decide +kernel
theorem dX3_gatherPhrase_99 : decode cX3_gatherPhrase 99 = .ok (.iload 6, 2) := by decide +kernel
theorem dX3_gatherPhrase_101 : decode cX3_gatherPhrase 101 = .ok (.iload_n 1, 1) := by decide +kernel
theorem dX3_gatherPhrase_102 : decode cX3_gatherPhrase 102 = .ok (.iload_n 2, 1) := by decide +kernel
theorem dX3_gatherPhrase_103 : decode cX3_gatherPhrase 103 = .ok (.invokevirtual 134, 3) := by decide +kernel
theorem dX3_gatherPhrase_106 : decode cX3_gatherPhrase 106 = .ok (.ifCond .eq 9, 3) := by decide +kernel
theorem dX3_gatherPhrase_109 : decode cX3_gatherPhrase 109 = .ok (.aload_n 3, 1) := by decide +kernel
theorem dX3_gatherPhrase_110 : decode cX3_gatherPhrase 110 = .ok (.iload 6, 2) := by decide +kernel
theorem dX3_gatherPhrase_112 : decode cX3_gatherPhrase 112 = .ok (.invokevirtual 131, 3) := by decide +kernel
theorem dX3_gatherPhrase_115 : decode cX3_gatherPhrase 115 = .ok (.iinc 5 1, 3) := by decide +kernel
theorem dX3_gatherPhrase_118 : decode cX3_gatherPhrase 118 = .ok (.goto (-86), 3) := by decide +kernel
theorem dX3_gatherPhrase_121 : decode cX3_gatherPhrase 121 = .ok (.return_, 1) := by decide +kernel
theorem dX3_standsFrom_0 : decode cX3_standsFrom 0 = .ok (.iload_n 2, 1) := by decide +kernel
theorem dX3_standsFrom_1 : decode cX3_standsFrom 1 = .ok (.istore 4, 2) := by decide +kernel
theorem dX3_standsFrom_3 : decode cX3_standsFrom 3 = .ok (.iload 4, 2) := by decide +kernel
theorem dX3_standsFrom_5 : decode cX3_standsFrom 5 = .ok (.iload_n 3, 1) := by decide +kernel
theorem dX3_standsFrom_6 : decode cX3_standsFrom 6 = .ok (.if_icmp .ge 44, 3) := by decide +kernel
theorem dX3_standsFrom_9 : decode cX3_standsFrom 9 = .ok (.aload_n 0, 1) := by decide +kernel
theorem dX3_standsFrom_10 : decode cX3_standsFrom 10 = .ok (.getfield 46, 3) := by decide +kernel
theorem dX3_standsFrom_13 : decode cX3_standsFrom 13 = .ok (.iload 4, 2) := by decide +kernel
theorem dX3_standsFrom_15 : decode cX3_standsFrom 15 = .ok (.invokevirtual 72, 3) := by decide +kernel
theorem dX3_standsFrom_18 : decode cX3_standsFrom 18 = .ok (.istore 5, 2) := by decide +kernel
theorem dX3_standsFrom_20 : decode cX3_standsFrom 20 = .ok (.iload 5, 2) := by decide +kernel
theorem dX3_standsFrom_22 : decode cX3_standsFrom 22 = .ok (.bipush (-2), 2) := by decide +kernel
theorem dX3_standsFrom_24 : decode cX3_standsFrom 24 = .ok (.if_icmp .eq 20, 3) := by decide +kernel
theorem dX3_standsFrom_27 : decode cX3_standsFrom 27 = .ok (.aload_n 0, 1) := by decide +kernel
theorem dX3_standsFrom_28 : decode cX3_standsFrom 28 = .ok (.iload_n 1, 1) := by decide +kernel
theorem dX3_standsFrom_29 : decode cX3_standsFrom 29 = .ok (.iload 4, 2) := by decide +kernel
theorem dX3_standsFrom_31 : decode cX3_standsFrom 31 = .ok (.iadd, 1) := by decide +kernel
theorem dX3_standsFrom_32 : decode cX3_standsFrom 32 = .ok (.iload_n 2, 1) := by decide +kernel
theorem dX3_standsFrom_33 : decode cX3_standsFrom 33 = .ok (.isub, 1) := by decide +kernel
theorem dX3_standsFrom_34 : decode cX3_standsFrom 34 = .ok (.invokevirtual 128, 3) := by decide +kernel
theorem dX3_standsFrom_37 : decode cX3_standsFrom 37 = .ok (.iload 5, 2) := by decide +kernel
theorem dX3_standsFrom_39 : decode cX3_standsFrom 39 = .ok (.if_icmp .eq 5, 3) := by decide +kernel
theorem dX3_standsFrom_42 : decode cX3_standsFrom 42 = .ok (.iconst 0, 1) := by decide +kernel
theorem dX3_standsFrom_43 : decode cX3_standsFrom 43 = .ok (.ireturn, 1) := by decide +kernel
theorem dX3_standsFrom_44 : decode cX3_standsFrom 44 = .ok (.iinc 4 1, 3) := by decide +kernel
theorem dX3_standsFrom_47 : decode cX3_standsFrom 47 = .ok (.goto (-44), 3) := by decide +kernel
theorem dX3_standsFrom_50 : decode cX3_standsFrom 50 = .ok (.iconst 1, 1) := by decide +kernel
theorem dX3_standsFrom_51 : decode cX3_standsFrom 51 = .ok (.ireturn, 1) := by decide +kernel
theorem dX4_init_0 : decode cX4_init 0 = .ok (.aload_n 0, 1) := by decide +kernel
theorem dX4_init_1 : decode cX4_init 1 = .ok (.invokespecial 3, 3) := by decide +kernel
theorem dX4_init_4 : decode cX4_init 4 = .ok (.aload_n 0, 1) := by decide +kernel
theorem dX4_init_5 : decode cX4_init 5 = .ok (.sipush 256, 3) := by decide +kernel
theorem dX4_init_8 : decode cX4_init 8 = .ok (.putfield 11, 3) := by decide +kernel
theorem dX4_init_11 : decode cX4_init 11 = .ok (.aload_n 0, 1) := by decide +kernel
theorem dX4_init_12 : decode cX4_init 12 = .ok (.iconst 0, 1) := by decide +kernel
theorem dX4_init_13 : decode cX4_init 13 = .ok (.putfield 15, 3) := by decide +kernel
theorem dX4_init_16 : decode cX4_init 16 = .ok (.aload_n 0, 1) := by decide +kernel
theorem dX4_init_17 : decode cX4_init 17 = .ok (.iconst 0, 1) := by decide +kernel
theorem dX4_init_18 : decode cX4_init 18 = .ok (.putfield 18, 3) := by decide +kernel
theorem dX4_init_21 : decode cX4_init 21 = .ok (.aload_n 0, 1) := by decide +kernel
theorem dX4_init_22 : decode cX4_init 22 = .ok (.iconst 0, 1) := by decide +kernel
theorem dX4_init_23 : decode cX4_init 23 = .ok (.putfield 21, 3) := by decide +kernel
theorem dX4_init_26 : decode cX4_init 26 = .ok (.aload_n 0, 1) := by decide +kernel
theorem dX4_init_27 : decode cX4_init 27 = .ok (.iconst (-1), 1) := by decide +kernel
theorem dX4_init_28 : decode cX4_init 28 = .ok (.putfield 24, 3) := by decide +kernel
theorem dX4_init_31 : decode cX4_init 31 = .ok (.aload_n 0, 1) := by decide +kernel
theorem dX4_init_32 : decode cX4_init 32 = .ok (.iconst 0, 1) := by decide +kernel
theorem dX4_init_33 : decode cX4_init 33 = .ok (.putfield 27, 3) := by decide +kernel
theorem dX4_init_36 : decode cX4_init 36 = .ok (.aload_n 0, 1) := by decide +kernel
theorem dX4_init_37 : decode cX4_init 37 = .ok (.iconst 0, 1) := by decide +kernel
theorem dX4_init_38 : decode cX4_init 38 = .ok (.putfield 31, 3) := by decide +kernel
theorem dX4_init_41 : decode cX4_init 41 = .ok (.aload_n 0, 1) := by decide +kernel
theorem dX4_init_42 : decode cX4_init 42 = .ok (.iconst 0, 1) := by decide +kernel
theorem dX4_init_43 : decode cX4_init 43 = .ok (.putfield 34, 3) := by decide +kernel
theorem dX4_init_46 : decode cX4_init 46 = .ok (.aload_n 0, 1) := by decide +kernel
theorem dX4_init_47 : decode cX4_init 47 = .ok (.aload_n 1, 1) := by decide +kernel
theorem dX4_init_48 : decode cX4_init 48 = .ok (.putfield 37, 3) := by decide +kernel
theorem dX4_init_51 : decode cX4_init 51 = .ok (.aload_n 0, 1) := by decide +kernel
theorem dX4_init_52 : decode cX4_init 52 = .ok (.aload_n 2, 1) := by decide +kernel
theorem dX4_init_53 : decode cX4_init 53 = .ok (.putfield 41, 3) := by decide +kernel
theorem dX4_init_56 : decode cX4_init 56 = .ok (.aload_n 0, 1) := by decide +kernel
theorem dX4_init_57 : decode cX4_init 57 = .ok (.aload_n 3, 1) := by decide +kernel
theorem dX4_init_58 : decode cX4_init 58 = .ok (.putfield 45, 3) := by decide +kernel
theorem dX4_init_61 : decode cX4_init 61 = .ok (.aload_n 0, 1) := by decide +kernel
theorem dX4_init_62 : decode cX4_init 62 = .ok (.aload 4, 2) := by decide +kernel
theorem dX4_init_64 : decode cX4_init 64 = .ok (.putfield 48, 3) := by decide +kernel
theorem dX4_init_67 : decode cX4_init 67 = .ok (.return_, 1) := by decide +kernel
theorem dX4_read_0 : decode cX4_read 0 = .ok (.aload_n 0, 1) := by decide +kernel
theorem dX4_read_1 : decode cX4_read 1 = .ok (.getfield 48, 3) := by decide +kernel
theorem dX4_read_4 : decode cX4_read 4 = .ok (.invokevirtual 52, 3) := by decide +kernel
theorem dX4_read_7 : decode cX4_read 7 = .ok (.aload_n 0, 1) := by decide +kernel
theorem dX4_read_8 : decode cX4_read 8 = .ok (.sipush 256, 3) := by decide +kernel
theorem dX4_read_11 : decode cX4_read 11 = .ok (.putfield 11, 3) := by decide +kernel
theorem dX4_read_14 : decode cX4_read 14 = .ok (.aload_n 0, 1) := by decide +kernel
theorem dX4_read_15 : decode cX4_read 15 = .ok (.iconst 0, 1) := by decide +kernel
theorem dX4_read_16 : decode cX4_read 16 = .ok (.putfield 18, 3) := by decide +kernel
theorem dX4_read_19 : decode cX4_read 19 = .ok (.aload_n 0, 1) := by decide +kernel
theorem dX4_read_20 : decode cX4_read 20 = .ok (.iconst 0, 1) := by decide +kernel
theorem dX4_read_21 : decode cX4_read 21 = .ok (.putfield 21, 3) := by decide +kernel
theorem dX4_read_24 : decode cX4_read 24 = .ok (.aload_n 0, 1) := by decide +kernel
theorem dX4_read_25 : decode cX4_read 25 = .ok (.iconst (-1), 1) := by decide +kernel
theorem dX4_read_26 : decode cX4_read 26 = .ok (.putfield 24, 3) := by decide +kernel
theorem dX4_read_29 : decode cX4_read 29 = .ok (.aload_n 0, 1) := by decide +kernel
theorem dX4_read_30 : decode cX4_read 30 = .ok (.iconst 0, 1) := by decide +kernel
theorem dX4_read_31 : decode cX4_read 31 = .ok (.putfield 31, 3) := by decide +kernel
theorem dX4_read_34 : decode cX4_read 34 = .ok (.aload_n 0, 1) := by decide +kernel
theorem dX4_read_35 : decode cX4_read 35 = .ok (.iconst 0, 1) := by decide +kernel
theorem dX4_read_36 : decode cX4_read 36 = .ok (.putfield 34, 3) := by decide +kernel
theorem dX4_read_39 : decode cX4_read 39 = .ok (.aload_n 0, 1) := by decide +kernel
theorem dX4_read_40 : decode cX4_read 40 = .ok (.invokevirtual 57, 3) := by decide +kernel
theorem dX4_read_43 : decode cX4_read 43 = .ok (.aload_n 0, 1) := by decide +kernel
theorem dX4_read_44 : decode cX4_read 44 = .ok (.invokevirtual 60, 3) := by decide +kernel
theorem dX4_read_47 : decode cX4_read 47 = .ok (.aload_n 0, 1) := by decide +kernel
theorem dX4_read_48 : decode cX4_read 48 = .ok (.getfield 11, 3) := by decide +kernel
theorem dX4_read_51 : decode cX4_read 51 = .ok (.sipush 256, 3) := by decide +kernel
theorem dX4_read_54 : decode cX4_read 54 = .ok (.if_icmp .ne 10, 3) := by decide +kernel
theorem dX4_read_57 : decode cX4_read 57 = .ok (.aload_n 0, 1) := by decide +kernel
theorem dX4_read_58 : decode cX4_read 58 = .ok (.invokevirtual 63, 3) := by decide +kernel
theorem dX4_read_61 : decode cX4_read 61 = .ok (.goto 12, 3) := by decide +kernel
theorem dX4_read_64 : decode cX4_read 64 = .ok (.aload_n 0, 1) := by decide +kernel
theorem dX4_read_65 : decode cX4_read 65 = .ok (.iconst 1, 1) := by decide +kernel
theorem dX4_read_66 : decode cX4_read 66 = .ok (.aload_n 0, 1) := by decide +kernel
theorem dX4_read_67 : decode cX4_read 67 = .ok (.getfield 15, 3) := by decide +kernel
theorem dX4_read_70 : decode cX4_read 70 = .ok (.invokevirtual 66, 3) := by decide +kernel
theorem dX4_read_73 : decode cX4_read 73 = .ok (.aload_n 0, 1) := by decide +kernel
theorem dX4_read_74 : decode cX4_read 74 = .ok (.getfield 21, 3) := by decide +kernel
theorem dX4_read_77 : decode cX4_read 77 = .ok (.ireturn, 1) := by decide +kernel
theorem dX4_fail_0 : decode cX4_fail 0 = .ok (.aload_n 0, 1) := by decide +kernel
theorem dX4_fail_1 : decode cX4_fail 1 = .ok (.getfield 21, 3) := by decide +kernel
theorem dX4_fail_4 : decode cX4_fail 4 = .ok (.ifCond .ne 16, 3) := by decide +kernel
theorem dX4_fail_7 : decode cX4_fail 7 = .ok (.aload_n 0, 1) := by decide +kernel
theorem dX4_fail_8 : decode cX4_fail 8 = .ok (.sipush 1000, 3) := by decide +kernel
theorem dX4_fail_11 : decode cX4_fail 11 = .ok (.iload_n 1, 1) := by decide +kernel
theorem dX4_fail_12 : decode cX4_fail 12 = .ok (.imul, 1) := by decide +kernel
theorem dX4_fail_13 : decode cX4_fail 13 = .ok (.iload_n 2, 1) := by decide +kernel
theorem dX4_fail_14 : decode cX4_fail 14 = .ok (.iadd, 1) := by decide +kernel
theorem dX4_fail_15 : decode cX4_fail 15 = .ok (.iconst 1, 1) := by decide +kernel
theorem dX4_fail_16 : decode cX4_fail 16 = .ok (.iadd, 1) := by decide +kernel
theorem dX4_fail_17 : decode cX4_fail 17 = .ok (.putfield 21, 3) := by decide +kernel
theorem dX4_fail_20 : decode cX4_fail 20 = .ok (.aload_n 0, 1) := by decide +kernel
theorem dX4_fail_21 : decode cX4_fail 21 = .ok (.sipush 265, 3) := by decide +kernel
theorem dX4_fail_24 : decode cX4_fail 24 = .ok (.putfield 11, 3) := by decide +kernel
theorem dX4_fail_27 : decode cX4_fail 27 = .ok (.return_, 1) := by decide +kernel
theorem dX4_settleNear_0 : decode cX4_settleNear 0 = .ok (.aload_n 0, 1) := by decide +kernel
theorem dX4_settleNear_1 : decode cX4_settleNear 1 = .ok (.getfield 24, 3) := by decide +kernel
theorem dX4_settleNear_4 : decode cX4_settleNear 4 = .ok (.iconst (-1), 1) := by decide +kernel
theorem dX4_settleNear_5 : decode cX4_settleNear 5 = .ok (.if_icmp .eq 12, 3) := by decide +kernel
theorem dX4_settleNear_8 : decode cX4_settleNear 8 = .ok (.aload_n 0, 1) := by decide +kernel
theorem dX4_settleNear_9 : decode cX4_settleNear 9 = .ok (.iconst 4, 1) := by decide +kernel
theorem dX4_settleNear_10 : decode cX4_settleNear 10 = .ok (.aload_n 0, 1) := by decide +kernel
theorem dX4_settleNear_11 : decode cX4_settleNear 11 = .ok (.getfield 24, 3) := by decide +kernel
theorem dX4_settleNear_14 : decode cX4_settleNear 14 = .ok (.invokevirtual 66, 3) := by decide +kernel
theorem dX4_settleNear_17 : decode cX4_settleNear 17 = .ok (.return_, 1) := by decide +kernel
theorem dX4_next_0 : decode cX4_next 0 = .ok (.aload_n 0, 1) := by decide +kernel
theorem dX4_next_1 : decode cX4_next 1 = .ok (.invokevirtual 63, 3) := by decide +kernel
theorem dX4_next_4 : decode cX4_next 4 = .ok (.aload_n 0, 1) := by decide +kernel
theorem dX4_next_5 : decode cX4_next 5 = .ok (.getfield 11, 3) := by decide +kernel
theorem dX4_next_8 : decode cX4_next 8 = .ok (.sipush 265, 3) := by decide +kernel
theorem dX4_next_11 : decode cX4_next 11 = .ok (.if_icmp .ne 4, 3) := by decide +kernel
theorem dX4_next_14 : decode cX4_next 14 = .ok (.return_, 1) := by decide +kernel
theorem dX4_next_15 : decode cX4_next 15 = .ok (.aload_n 0, 1) := by decide +kernel
theorem dX4_next_16 : decode cX4_next 16 = .ok (.aload_n 0, 1) := by decide +kernel
theorem dX4_next_17 : decode cX4_next 17 = .ok (.getfield 37, 3) := by decide +kernel
theorem dX4_next_20 : decode cX4_next 20 = .ok (.aload_n 0, 1) := by decide +kernel
theorem dX4_next_21 : decode cX4_next 21 = .ok (.getfield 18, 3) := by decide +kernel
theorem dX4_next_24 : decode cX4_next 24 = .ok (.invokevirtual 70, 3) := by decide +kernel
theorem dX4_next_27 : decode cX4_next 27 = .ok (.putfield 15, 3) := by decide +kernel
theorem dX4_next_30 : decode cX4_next 30 = .ok (.aload_n 0, 1) := by decide +kernel
theorem dX4_next_31 : decode cX4_next 31 = .ok (.getfield 37, 3) := by decide +kernel
theorem dX4_next_34 : decode cX4_next 34 = .ok (.aload_n 0, 1) := by decide +kernel
theorem dX4_next_35 : decode cX4_next 35 = .ok (.getfield 15, 3) := by decide +kernel
theorem dX4_next_38 : decode cX4_next 38 = .ok (.invokevirtual 76, 3) := by decide +kernel
theorem dX4_next_41 : decode cX4_next 41 = .ok (.istore_n 1, 1) := by decide +kernel
theorem dX4_next_42 : decode cX4_next 42 = .ok (.aload_n 0, 1) := by decide +kernel
theorem dX4_next_43 : decode cX4_next 43 = .ok (.aload_n 0, 1) := by decide +kernel
theorem dX4_next_44 : decode cX4_next 44 = .ok (.getfield 15, 3) := by decide +kernel
theorem dX4_next_47 : decode cX4_next 47 = .ok (.iconst 1, 1) := by decide +kernel
theorem dX4_next_48 : decode cX4_next 48 = .ok (.iadd, 1) := by decide +kernel
theorem dX4_next_49 : decode cX4_next 49 = .ok (.putfield 18, 3) := by decide +kernel
theorem dX4_next_52 : decode cX4_next 52 = .ok (.iload_n 1, 1) := by decide +kernel
theorem dX4_next_53 : decode cX4_next 53 = .ok (.iconst (-1), 1) := by decide +kernel
theorem dX4_next_54 : decode cX4_next 54 = .ok (.if_icmp .ne 13, 3) := by decide +kernel
theorem dX4_next_57 : decode cX4_next 57 = .ok (.aload_n 0, 1) := by decide +kernel
theorem dX4_next_58 : decode cX4_next 58 = .ok (.sipush 256, 3) := by decide +kernel
theorem dX4_next_61 : decode cX4_next 61 = .ok (.putfield 11, 3) := by decide +kernel
theorem dX4_next_64 : decode cX4_next 64 = .ok (.goto 92, 3) := by decide +kernel
theorem dX4_next_67 : decode cX4_next 67 = .ok (.aload_n 0, 1) := by decide +kernel
theorem dX4_next_68 : decode cX4_next 68 = .ok (.getfield 37, 3) := by decide +kernel
theorem dX4_next_71 : decode cX4_next 71 = .ok (.aload_n 0, 1) := by decide +kernel
theorem dX4_next_72 : decode cX4_next 72 = .ok (.getfield 15, 3) := by decide +kernel
theorem dX4_next_75 : decode cX4_next 75 = .ok (.invokevirtual 79, 3) := by decide +kernel
theorem dX4_next_78 : decode cX4_next 78 = .ok (.ifCond .eq 29, 3) := by decide +kernel
theorem dX4_next_81 : decode cX4_next 81 = .ok (.aload_n 0, 1) := by decide +kernel
theorem dX4_next_82 : decode cX4_next 82 = .ok (.aload_n 0, 1) := by decide +kernel
theorem dX4_next_83 : decode cX4_next 83 = .ok (.getfield 37, 3) := by decide +kernel
theorem dX4_next_86 : decode cX4_next 86 = .ok (.aload_n 0, 1) := by decide +kernel
theorem dX4_next_87 : decode cX4_next 87 = .ok (.getfield 15, 3) := by decide +kernel
theorem dX4_next_90 : decode cX4_next 90 = .ok (.invokevirtual 83, 3) := by decide +kernel
theorem dX4_next_93 : decode cX4_next 93 = .ok (.putfield 18, 3) := by decide +kernel
theorem dX4_next_96 : decode cX4_next 96 = .ok (.aload_n 0, 1) := by decide +kernel
theorem dX4_next_97 : decode cX4_next 97 = .ok (.aload_n 0, 1) := by decide +kernel
theorem dX4_next_98 : decode cX4_next 98 = .ok (.invokevirtual 86, 3) := by decide +kernel
theorem dX4_next_101 : decode cX4_next 101 = .ok (.putfield 11, 3) := by decide +kernel
theorem dX4_next_104 : decode cX4_next 104 = .ok (.goto 52, 3) := by decide +kernel
theorem dX4_next_107 : decode cX4_next 107 = .ok (.iload_n 1, 1) := by decide +kernel
theorem dX4_next_108 : decode cX4_next 108 = .ok (.bipush 46, 2) := by decide +kernel
theorem dX4_next_110 : decode cX4_next 110 = .ok (.if_icmp .ne 41, 3) := by decide +kernel
theorem dX4_next_113 : decode cX4_next 113 = .ok (.aload_n 0, 1) := by decide +kernel
theorem dX4_next_114 : decode cX4_next 114 = .ok (.getfield 37, 3) := by decide +kernel
theorem dX4_next_117 : decode cX4_next 117 = .ok (.aload_n 0, 1) := by decide +kernel
theorem dX4_next_118 : decode cX4_next 118 = .ok (.getfield 15, 3) := by decide +kernel
theorem dX4_next_121 : decode cX4_next 121 = .ok (.iconst 1, 1) := by decide +kernel
theorem dX4_next_122 : decode cX4_next 122 = .ok (.iadd, 1) := by decide +kernel
theorem dX4_next_123 : decode cX4_next 123 = .ok (.invokevirtual 76, 3) := by decide +kernel
theorem dX4_next_126 : decode cX4_next 126 = .ok (.bipush 46, 2) := by decide +kernel
theorem dX4_next_128 : decode cX4_next 128 = .ok (.if_icmp .ne 23, 3) := by decide +kernel
theorem dX4_next_131 : decode cX4_next 131 = .ok (.aload_n 0, 1) := by decide +kernel
theorem dX4_next_132 : decode cX4_next 132 = .ok (.aload_n 0, 1) := by decide +kernel
theorem dX4_next_133 : decode cX4_next 133 = .ok (.getfield 15, 3) := by decide +kernel
theorem dX4_next_136 : decode cX4_next 136 = .ok (.iconst 2, 1) := by decide +kernel
theorem dX4_next_137 : decode cX4_next 137 = .ok (.iadd, 1) := by decide +kernel
theorem dX4_next_138 : decode cX4_next 138 = .ok (.putfield 18, 3) := by decide +kernel
theorem dX4_next_141 : decode cX4_next 141 = .ok (.aload_n 0, 1) := by decide +kernel
theorem dX4_next_142 : decode cX4_next 142 = .ok (.sipush 264, 3) := by decide +kernel
theorem dX4_next_145 : decode cX4_next 145 = .ok (.putfield 11, 3) := by decide +kernel
theorem dX4_next_148 : decode cX4_next 148 = .ok (.goto 8, 3) := by decide +kernel
theorem dX4_next_151 : decode cX4_next 151 = .ok (.aload_n 0, 1) := by decide +kernel
theorem dX4_next_152 : decode cX4_next 152 = .ok (.iload_n 1, 1) := by decide +kernel
theorem dX4_next_153 : decode cX4_next 153 = .ok (.putfield 11, 3) := by decide +kernel
theorem dX4_next_156 : decode cX4_next 156 = .ok (.return_, 1) := by decide +kernel
theorem dX4_sortOfRun_0 : decode cX4_sortOfRun 0 = .ok (.aload_n 0, 1) := by decide +kernel
theorem dX4_sortOfRun_1 : decode cX4_sortOfRun 1 = .ok (.getfield 37, 3) := by decide +kernel
theorem dX4_sortOfRun_4 : decode cX4_sortOfRun 4 = .ok (.aload_n 0, 1) := by decide +kernel
theorem dX4_sortOfRun_5 : decode cX4_sortOfRun 5 = .ok (.getfield 15, 3) := by decide +kernel
theorem dX4_sortOfRun_8 : decode cX4_sortOfRun 8 = .ok (.aload_n 0, 1) := by decide +kernel
theorem dX4_sortOfRun_9 : decode cX4_sortOfRun 9 = .ok (.getfield 18, 3) := by decide +kernel
theorem dX4_sortOfRun_12 : decode cX4_sortOfRun 12 = .ok (.ldc 90, 2) := by decide +kernel
theorem dX4_sortOfRun_14 : decode cX4_sortOfRun 14 = .ok (.invokevirtual 92, 3) := by decide +kernel
theorem dX4_sortOfRun_17 : decode cX4_sortOfRun 17 = .ok (.ifCond .eq 7, 3) := by decide +kernel
theorem dX4_sortOfRun_20 : decode cX4_sortOfRun 20 = .ok (.sipush 258, 3) := by decide +kernel
theorem dX4_sortOfRun_23 : decode cX4_sortOfRun 23 = .ok (.ireturn, 1) := by decide +kernel
theorem dX4_sortOfRun_24 : decode cX4_sortOfRun 24 = .ok (.aload_n 0, 1) := by decide +kernel
theorem dX4_sortOfRun_25 : decode cX4_sortOfRun 25 = .ok (.getfield 37, 3) := by decide +kernel
theorem dX4_sortOfRun_28 : decode cX4_sortOfRun 28 = .ok (.aload_n 0, 1) := by decide +kernel
theorem dX4_sortOfRun_29 : decode cX4_sortOfRun 29 = .ok (.getfield 15, 3) := by decide +kernel
theorem dX4_sortOfRun_32 : decode cX4_sortOfRun 32 = .ok (.aload_n 0, 1) := by decide +kernel
theorem dX4_sortOfRun_33 : decode cX4_sortOfRun 33 = .ok (.getfield 18, 3) := by decide +kernel
theorem dX4_sortOfRun_36 : decode cX4_sortOfRun 36 = .ok (.ldc 96, 2) := by decide +kernel
theorem dX4_sortOfRun_38 : decode cX4_sortOfRun 38 = .ok (.invokevirtual 92, 3) := by decide +kernel
theorem dX4_sortOfRun_41 : decode cX4_sortOfRun 41 = .ok (.ifCond .eq 7, 3) := by decide +kernel
theorem dX4_sortOfRun_44 : decode cX4_sortOfRun 44 = .ok (.sipush 259, 3) := by decide +kernel
theorem dX4_sortOfRun_47 : decode cX4_sortOfRun 47 = .ok (.ireturn, 1) := by decide +kernel
theorem dX4_sortOfRun_48 : decode cX4_sortOfRun 48 = .ok (.aload_n 0, 1) := by decide +kernel
theorem dX4_sortOfRun_49 : decode cX4_sortOfRun 49 = .ok (.getfield 37, 3) := by decide +kernel
theorem dX4_sortOfRun_52 : decode cX4_sortOfRun 52 = .ok (.aload_n 0, 1) := by decide +kernel
theorem dX4_sortOfRun_53 : decode cX4_sortOfRun 53 = .ok (.getfield 15, 3) := by decide +kernel
theorem dX4_sortOfRun_56 : decode cX4_sortOfRun 56 = .ok (.aload_n 0, 1) := by decide +kernel
theorem dX4_sortOfRun_57 : decode cX4_sortOfRun 57 = .ok (.getfield 18, 3) := by decide +kernel
theorem dX4_sortOfRun_60 : decode cX4_sortOfRun 60 = .ok (.ldc 98, 2) := by decide +kernel
theorem dX4_sortOfRun_62 : decode cX4_sortOfRun 62 = .ok (.invokevirtual 92, 3) := by decide +kernel
theorem dX4_sortOfRun_65 : decode cX4_sortOfRun 65 = .ok (.ifCond .eq 7, 3) := by decide +kernel
theorem dX4_sortOfRun_68 : decode cX4_sortOfRun 68 = .ok (.sipush 260, 3) := by decide +kernel
theorem dX4_sortOfRun_71 : decode cX4_sortOfRun 71 = .ok (.ireturn, 1) := by decide +kernel
theorem dX4_sortOfRun_72 : decode cX4_sortOfRun 72 = .ok (.aload_n 0, 1) := by decide +kernel
theorem dX4_sortOfRun_73 : decode cX4_sortOfRun 73 = .ok (.getfield 37, 3) := by decide +kernel
theorem dX4_sortOfRun_76 : decode cX4_sortOfRun 76 = .ok (.aload_n 0, 1) := by decide +kernel
theorem dX4_sortOfRun_77 : decode cX4_sortOfRun 77 = .ok (.getfield 15, 3) := by decide +kernel
theorem dX4_sortOfRun_80 : decode cX4_sortOfRun 80 = .ok (.aload_n 0, 1) := by decide +kernel
theorem dX4_sortOfRun_81 : decode cX4_sortOfRun 81 = .ok (.getfield 18, 3) := by decide +kernel
theorem dX4_sortOfRun_84 : decode cX4_sortOfRun 84 = .ok (.ldc 100, 2) := by decide +kernel
theorem dX4_sortOfRun_86 : decode cX4_sortOfRun 86 = .ok (.invokevirtual 92, 3) := by decide +kernel
theorem dX4_sortOfRun_89 : decode cX4_sortOfRun 89 = .ok (.ifCond .eq 7, 3) := by decide +kernel
theorem dX4_sortOfRun_92 : decode cX4_sortOfRun 92 = .ok (.sipush 261, 3) := by decide +kernel
theorem dX4_sortOfRun_95 : decode cX4_sortOfRun 95 = .ok (.ireturn, 1) := by decide +kernel
theorem dX4_sortOfRun_96 : decode cX4_sortOfRun 96 = .ok (.aload_n 0, 1) := by decide +kernel
theorem dX4_sortOfRun_97 : decode cX4_sortOfRun 97 = .ok (.getfield 37, 3) := by decide +kernel
theorem dX4_sortOfRun_100 : decode cX4_sortOfRun 100 = .ok (.aload_n 0, 1) := by decide +kernel
theorem dX4_sortOfRun_101 : decode cX4_sortOfRun 101 = .ok (.getfield 15, 3) := by decide +kernel
theorem dX4_sortOfRun_104 : decode cX4_sortOfRun 104 = .ok (.aload_n 0, 1) := by decide +kernel
theorem dX4_sortOfRun_105 : decode cX4_sortOfRun 105 = .ok (.getfield 18, 3) := by decide +kernel
theorem dX4_sortOfRun_108 : decode cX4_sortOfRun 108 = .ok (.ldc 102, 2) := by decide +kernel
theorem dX4_sortOfRun_110 : decode cX4_sortOfRun 110 = .ok (.invokevirtual 92, 3) := by decide +kernel
theorem dX4_sortOfRun_113 : decode cX4_sortOfRun 113 = .ok (.istore_n 1, 1) := by decide +kernel
theorem dX4_sortOfRun_114 : decode cX4_sortOfRun 114 = .ok (.aload_n 0, 1) := by decide +kernel
theorem dX4_sortOfRun_115 : decode cX4_sortOfRun 115 = .ok (.getfield 37, 3) := by decide +kernel
theorem dX4_sortOfRun_118 : decode cX4_sortOfRun 118 = .ok (.aload_n 0, 1) := by decide +kernel
theorem dX4_sortOfRun_119 : decode cX4_sortOfRun 119 = .ok (.getfield 18, 3) := by decide +kernel
theorem dX4_sortOfRun_122 : decode cX4_sortOfRun 122 = .ok (.invokevirtual 70, 3) := by decide +kernel
theorem dX4_sortOfRun_125 : decode cX4_sortOfRun 125 = .ok (.istore_n 2, 1) := by decide +kernel
theorem dX4_sortOfRun_126 : decode cX4_sortOfRun 126 = .ok (.iload_n 1, 1) := by decide +kernel
theorem dX4_sortOfRun_127 : decode cX4_sortOfRun 127 = .ok (.ifCond .ne 23, 3) := by decide +kernel
theorem dX4_sortOfRun_130 : decode cX4_sortOfRun 130 = .ok (.aload_n 0, 1) := by decide +kernel
theorem dX4_sortOfRun_131 : decode cX4_sortOfRun 131 = .ok (.getfield 37, 3) := by decide +kernel
theorem dX4_sortOfRun_134 : decode cX4_sortOfRun 134 = .ok (.aload_n 0, 1) := by decide +kernel
theorem dX4_sortOfRun_135 : decode cX4_sortOfRun 135 = .ok (.getfield 15, 3) := by decide +kernel
theorem dX4_sortOfRun_138 : decode cX4_sortOfRun 138 = .ok (.aload_n 0, 1) := by decide +kernel
theorem dX4_sortOfRun_139 : decode cX4_sortOfRun 139 = .ok (.getfield 18, 3) := by decide +kernel
theorem dX4_sortOfRun_142 : decode cX4_sortOfRun 142 = .ok (.ldc 104, 2) := by decide +kernel
theorem dX4_sortOfRun_144 : decode cX4_sortOfRun 144 = .ok (.invokevirtual 92, 3) := by decide +kernel
theorem dX4_sortOfRun_147 : decode cX4_sortOfRun 147 = .ok (.ifCond .eq 37, 3) := by decide +kernel
theorem dX4_sortOfRun_150 : decode cX4_sortOfRun 150 = .ok (.aload_n 0, 1) := by decide +kernel
theorem dX4_sortOfRun_151 : decode cX4_sortOfRun 151 = .ok (.getfield 37, 3) := by decide +kernel
theorem dX4_sortOfRun_154 : decode cX4_sortOfRun 154 = .ok (.iload_n 2, 1) := by decide +kernel
theorem dX4_sortOfRun_155 : decode cX4_sortOfRun 155 = .ok (.invokevirtual 76, 3) := by decide +kernel
theorem dX4_sortOfRun_158 : decode cX4_sortOfRun 158 = .ok (.bipush 58, 2) := by decide +kernel
theorem dX4_sortOfRun_160 : decode cX4_sortOfRun 160 = .ok (.if_icmp .ne 24, 3) := by decide +kernel
theorem dX4_sortOfRun_163 : decode cX4_sortOfRun 163 = .ok (.aload_n 0, 1) := by decide +kernel
theorem dX4_sortOfRun_164 : decode cX4_sortOfRun 164 = .ok (.iload_n 2, 1) := by decide +kernel
theorem dX4_sortOfRun_165 : decode cX4_sortOfRun 165 = .ok (.iconst 1, 1) := by decide +kernel
theorem dX4_sortOfRun_166 : decode cX4_sortOfRun 166 = .ok (.iadd, 1) := by decide +kernel
theorem dX4_sortOfRun_167 : decode cX4_sortOfRun 167 = .ok (.putfield 18, 3) := by decide +kernel
theorem dX4_sortOfRun_170 : decode cX4_sortOfRun 170 = .ok (.iload_n 1, 1) := by decide +kernel
theorem dX4_sortOfRun_171 : decode cX4_sortOfRun 171 = .ok (.ifCond .eq 9, 3) := by decide +kernel
theorem dX4_sortOfRun_174 : decode cX4_sortOfRun 174 = .ok (.sipush 262, 3) := by decide +kernel
theorem dX4_sortOfRun_177 : decode cX4_sortOfRun 177 = .ok (.goto 6, 3) := by decide +kernel
theorem dX4_sortOfRun_180 : decode cX4_sortOfRun 180 = .ok (.sipush 263, 3) := by decide +kernel
theorem dX4_sortOfRun_183 : decode cX4_sortOfRun 183 = .ok (.ireturn, 1) := by decide +kernel
theorem dX4_sortOfRun_184 : decode cX4_sortOfRun 184 = .ok (.sipush 257, 3) := by decide +kernel
theorem dX4_sortOfRun_187 : decode cX4_sortOfRun 187 = .ok (.ireturn, 1) := by decide +kernel
theorem dX4_readQuery_0 : decode cX4_readQuery 0 = .ok (.aload_n 0, 1) := by decide +kernel
theorem dX4_readQuery_1 : decode cX4_readQuery 1 = .ok (.invokevirtual 106, 3) := by decide +kernel
theorem dX4_readQuery_4 : decode cX4_readQuery 4 = .ok (.iconst 0, 1) := by decide +kernel
theorem dX4_readQuery_5 : decode cX4_readQuery 5 = .ok (.istore_n 1, 1) := by decide +kernel
theorem dX4_readQuery_6 : decode cX4_readQuery 6 = .ok (.iload_n 1, 1) := by decide +kernel
theorem dX4_readQuery_7 : decode cX4_readQuery 7 = .ok (.sipush 600, 3) := by decide +kernel
theorem dX4_readQuery_10 : decode cX4_readQuery 10 = .ok (.if_icmp .ge 37, 3) := by decide +kernel
theorem dX4_readQuery_13 : decode cX4_readQuery 13 = .ok (.aload_n 0, 1) := by decide +kernel
theorem dX4_readQuery_14 : decode cX4_readQuery 14 = .ok (.getfield 11, 3) := by decide +kernel
theorem dX4_readQuery_17 : decode cX4_readQuery 17 = .ok (.sipush 258, 3) := by decide +kernel
theorem dX4_readQuery_20 : decode cX4_readQuery 20 = .ok (.if_icmp .ne 27, 3) := by decide +kernel
theorem dX4_readQuery_23 : decode cX4_readQuery 23 = .ok (.aload_n 0, 1) := by decide +kernel
theorem dX4_readQuery_24 : decode cX4_readQuery 24 = .ok (.invokevirtual 57, 3) := by decide +kernel
theorem dX4_readQuery_27 : decode cX4_readQuery 27 = .ok (.aload_n 0, 1) := by decide +kernel
theorem dX4_readQuery_28 : decode cX4_readQuery 28 = .ok (.invokevirtual 106, 3) := by decide +kernel
theorem dX4_readQuery_31 : decode cX4_readQuery 31 = .ok (.aload_n 0, 1) := by decide +kernel
theorem dX4_readQuery_32 : decode cX4_readQuery 32 = .ok (.getfield 48, 3) := by decide +kernel
theorem dX4_readQuery_35 : decode cX4_readQuery 35 = .ok (.bipush 9, 2) := by decide +kernel
theorem dX4_readQuery_37 : decode cX4_readQuery 37 = .ok (.iconst 0, 1) := by decide +kernel
theorem dX4_readQuery_38 : decode cX4_readQuery 38 = .ok (.invokevirtual 109, 3) := by decide +kernel
theorem dX4_readQuery_41 : decode cX4_readQuery 41 = .ok (.iinc 1 1, 3) := by decide +kernel
theorem dX4_readQuery_44 : decode cX4_readQuery 44 = .ok (.goto (-38), 3) := by decide +kernel
theorem dX4_readQuery_47 : decode cX4_readQuery 47 = .ok (.return_, 1) := by decide +kernel
theorem dX4_readAll_0 : decode cX4_readAll 0 = .ok (.aload_n 0, 1) := by decide +kernel
theorem dX4_readAll_1 : decode cX4_readAll 1 = .ok (.invokevirtual 112, 3) := by decide +kernel
theorem dX4_readAll_4 : decode cX4_readAll 4 = .ok (.ifCond .eq 13, 3) := by decide +kernel
theorem dX4_readAll_7 : decode cX4_readAll 7 = .ok (.aload_n 0, 1) := by decide +kernel
theorem dX4_readAll_8 : decode cX4_readAll 8 = .ok (.getfield 48, 3) := by decide +kernel
theorem dX4_readAll_11 : decode cX4_readAll 11 = .ok (.bipush 10, 2) := by decide +kernel
theorem dX4_readAll_13 : decode cX4_readAll 13 = .ok (.iconst 0, 1) := by decide +kernel
theorem dX4_readAll_14 : decode cX4_readAll 14 = .ok (.invokevirtual 116, 3) := by decide +kernel
theorem dX4_readAll_17 : decode cX4_readAll 17 = .ok (.iconst 0, 1) := by decide +kernel
theorem dX4_readAll_18 : decode cX4_readAll 18 = .ok (.istore_n 1, 1) := by decide +kernel
theorem dX4_readAll_19 : decode cX4_readAll 19 = .ok (.iload_n 1, 1) := by decide +kernel
theorem dX4_readAll_20 : decode cX4_readAll 20 = .ok (.sipush 600, 3) := by decide +kernel
theorem dX4_readAll_23 : decode cX4_readAll 23 = .ok (.if_icmp .ge 52, 3) := by decide +kernel
theorem dX4_readAll_26 : decode cX4_readAll 26 = .ok (.aload_n 0, 1) := by decide +kernel
theorem dX4_readAll_27 : decode cX4_readAll 27 = .ok (.invokevirtual 119, 3) := by decide +kernel
theorem dX4_readAll_30 : decode cX4_readAll 30 = .ok (.ifCond .eq 45, 3) := by decide +kernel
theorem dX4_readAll_33 : decode cX4_readAll 33 = .ok (.aload_n 0, 1) := by decide +kernel
theorem dX4_readAll_34 : decode cX4_readAll 34 = .ok (.getfield 11, 3) := by decide +kernel
theorem dX4_readAll_37 : decode cX4_readAll 37 = .ok (.sipush 259, 3) := by decide +kernel
theorem dX4_readAll_40 : decode cX4_readAll 40 = .ok (.if_icmp .ne 7, 3) := by decide +kernel
theorem dX4_readAll_43 : decode cX4_readAll 43 = .ok (.aload_n 0, 1) := by decide +kernel
theorem dX4_readAll_44 : decode cX4_readAll 44 = .ok (.invokevirtual 57, 3) := by decide +kernel
theorem dX4_readAll_47 : decode cX4_readAll 47 = .ok (.aload_n 0, 1) := by decide +kernel
theorem dX4_readAll_48 : decode cX4_readAll 48 = .ok (.getfield 48, 3) := by decide +kernel
theorem dX4_readAll_51 : decode cX4_readAll 51 = .ok (.aload_n 0, 1) := by decide +kernel
theorem dX4_readAll_52 : decode cX4_readAll 52 = .ok (.invokevirtual 112, 3) := by decide +kernel
theorem dX4_readAll_55 : decode cX4_readAll 55 = .ok (.ifCond .eq 8, 3) := by decide +kernel
theorem dX4_readAll_58 : decode cX4_readAll 58 = .ok (.bipush 11, 2) := by decide +kernel
theorem dX4_readAll_60 : decode cX4_readAll 60 = .ok (.goto 5, 3) := by decide +kernel
theorem dX4_readAll_63 : decode cX4_readAll 63 = .ok (.bipush 8, 2) := by decide +kernel
theorem dX4_readAll_65 : decode cX4_readAll 65 = .ok (.iconst 0, 1) := by decide +kernel
theorem dX4_readAll_66 : decode cX4_readAll 66 = .ok (.invokevirtual 109, 3) := by decide +kernel
theorem dX4_readAll_69 : decode cX4_readAll 69 = .ok (.iinc 1 1, 3) := by decide +kernel
theorem dX4_readAll_72 : decode cX4_readAll 72 = .ok (.goto (-53), 3) := by decide +kernel
theorem dX4_readAll_75 : decode cX4_readAll 75 = .ok (.return_, 1) := by decide +kernel
theorem dX4_goesOn_0 : decode cX4_goesOn 0 = .ok (.aload_n 0, 1) := by decide +kernel
theorem dX4_goesOn_1 : decode cX4_goesOn 1 = .ok (.getfield 11, 3) := by decide +kernel
theorem dX4_goesOn_4 : decode cX4_goesOn 4 = .ok (.lookupswitch 78 #[(34, 76), (40, 76), (91, 76), (257, 76), (259, 76), (260, 76), (262, 76), (263, 76)], 76) := by decide +kernel
theorem dX4_goesOn_80 : decode cX4_goesOn 80 = .ok (.iconst 1, 1) := by decide +kernel
theorem dX4_goesOn_81 : decode cX4_goesOn 81 = .ok (.ireturn, 1) := by decide +kernel
theorem dX4_goesOn_82 : decode cX4_goesOn 82 = .ok (.iconst 0, 1) := by decide +kernel
theorem dX4_goesOn_83 : decode cX4_goesOn 83 = .ok (.ireturn, 1) := by decide +kernel
theorem dX4_readNots_0 : decode cX4_readNots 0 = .ok (.iconst 0, 1) := by decide +kernel
theorem dX4_readNots_1 : decode cX4_readNots 1 = .ok (.istore_n 1, 1) := by decide +kernel
theorem dX4_readNots_2 : decode cX4_readNots 2 = .ok (.iconst 0, 1) := by decide +kernel
theorem dX4_readNots_3 : decode cX4_readNots 3 = .ok (.istore_n 2, 1) := by decide +kernel
theorem dX4_readNots_4 : decode cX4_readNots 4 = .ok (.iload_n 2, 1) := by decide +kernel
theorem dX4_readNots_5 : decode cX4_readNots 5 = .ok (.bipush 40, 2) := by decide +kernel
theorem dX4_readNots_7 : decode cX4_readNots 7 = .ok (.if_icmp .gt 48, 3) := by decide +kernel
theorem dX4_readNots_10 : decode cX4_readNots 10 = .ok (.aload_n 0, 1) := by decide +kernel
theorem dX4_readNots_11 : decode cX4_readNots 11 = .ok (.getfield 11, 3) := by decide +kernel
theorem dX4_readNots_14 : decode cX4_readNots 14 = .ok (.sipush 260, 3) := by decide +kernel
theorem dX4_readNots_17 : decode cX4_readNots 17 = .ok (.if_icmp .ne 38, 3) := by decide +kernel
theorem dX4_readNots_20 : decode cX4_readNots 20 = .ok (.iload_n 2, 1) := by decide +kernel
theorem dX4_readNots_21 : decode cX4_readNots 21 = .ok (.bipush 40, 2) := by decide +kernel
theorem dX4_readNots_23 : decode cX4_readNots 23 = .ok (.if_icmp .ne 12, 3) := by decide +kernel
theorem dX4_readNots_26 : decode cX4_readNots 26 = .ok (.aload_n 0, 1) := by decide +kernel
theorem dX4_readNots_27 : decode cX4_readNots 27 = .ok (.iconst 3, 1) := by decide +kernel
theorem dX4_readNots_28 : decode cX4_readNots 28 = .ok (.aload_n 0, 1) := by decide +kernel
theorem dX4_readNots_29 : decode cX4_readNots 29 = .ok (.getfield 15, 3) := by decide +kernel
theorem dX4_readNots_32 : decode cX4_readNots 32 = .ok (.invokevirtual 66, 3) := by decide +kernel
theorem dX4_readNots_35 : decode cX4_readNots 35 = .ok (.aload_n 0, 1) := by decide +kernel
theorem dX4_readNots_36 : decode cX4_readNots 36 = .ok (.invokevirtual 57, 3) := by decide +kernel
theorem dX4_readNots_39 : decode cX4_readNots 39 = .ok (.iload_n 1, 1) := by decide +kernel
theorem dX4_readNots_40 : decode cX4_readNots 40 = .ok (.ifCond .ne 7, 3) := by decide +kernel
theorem dX4_readNots_43 : decode cX4_readNots 43 = .ok (.iconst 1, 1) := by decide +kernel
theorem dX4_readNots_44 : decode cX4_readNots 44 = .ok (.goto 4, 3) := by decide +kernel
theorem dX4_readNots_47 : decode cX4_readNots 47 = .ok (.iconst 0, 1) := by decide +kernel
theorem dX4_readNots_48 : decode cX4_readNots 48 = .ok (.istore_n 1, 1) := by decide +kernel
theorem dX4_readNots_49 : decode cX4_readNots 49 = .ok (.iinc 2 1, 3) := by decide +kernel
theorem dX4_readNots_52 : decode cX4_readNots 52 = .ok (.goto (-48), 3) := by decide +kernel
theorem dX4_readNots_55 : decode cX4_readNots 55 = .ok (.aload_n 0, 1) := by decide +kernel
theorem dX4_readNots_56 : decode cX4_readNots 56 = .ok (.dup, 1) := by decide +kernel
theorem dX4_readNots_57 : decode cX4_readNots 57 = .ok (.getfield 31, 3) := by decide +kernel
theorem dX4_readNots_60 : decode cX4_readNots 60 = .ok (.iload_n 1, 1) := by decide +kernel
theorem dX4_readNots_61 : decode cX4_readNots 61 = .ok (.ifCond .eq 7, 3) := by decide +kernel
theorem dX4_readNots_64 : decode cX4_readNots 64 = .ok (.iconst 1, 1) := by decide +kernel
theorem dX4_readNots_65 : decode cX4_readNots 65 = .ok (.goto 4, 3) := by decide +kernel
theorem dX4_readNots_68 : decode cX4_readNots 68 = .ok (.iconst 0, 1) := by decide +kernel
theorem dX4_readNots_69 : decode cX4_readNots 69 = .ok (.iadd, 1) := by decide +kernel
theorem dX4_readNots_70 : decode cX4_readNots 70 = .ok (.putfield 31, 3) := by decide +kernel
theorem dX4_readNots_73 : decode cX4_readNots 73 = .ok (.aload_n 0, 1) := by decide +kernel
theorem dX4_readNots_74 : decode cX4_readNots 74 = .ok (.invokevirtual 122, 3) := by decide +kernel
theorem dX4_readNots_77 : decode cX4_readNots 77 = .ok (.aload_n 0, 1) := by decide +kernel
theorem dX4_readNots_78 : decode cX4_readNots 78 = .ok (.dup, 1) := by decide +kernel
theorem dX4_readNots_79 : decode cX4_readNots 79 = .ok (.getfield 31, 3) := by decide +kernel
theorem dX4_readNots_82 : decode cX4_readNots 82 = .ok (.iload_n 1, 1) := by decide +kernel
theorem dX4_readNots_83 : decode cX4_readNots 83 = .ok (.ifCond .eq 7, 3) := by decide +kernel
theorem dX4_readNots_86 : decode cX4_readNots 86 = .ok (.iconst 1, 1) := by decide +kernel
theorem dX4_readNots_87 : decode cX4_readNots 87 = .ok (.goto 4, 3) := by decide +kernel
theorem dX4_readNots_90 : decode cX4_readNots 90 = .ok (.iconst 0, 1) := by decide +kernel
theorem dX4_readNots_91 : decode cX4_readNots 91 = .ok (.isub, 1) := by decide +kernel
theorem dX4_readNots_92 : decode cX4_readNots 92 = .ok (.putfield 31, 3) := by decide +kernel
theorem dX4_readNots_95 : decode cX4_readNots 95 = .ok (.iload_n 1, 1) := by decide +kernel
theorem dX4_readNots_96 : decode cX4_readNots 96 = .ok (.ireturn, 1) := by decide +kernel
theorem dX4_readNear_0 : decode cX4_readNear 0 = .ok (.aload_n 0, 1) := by decide +kernel
theorem dX4_readNear_1 : decode cX4_readNear 1 = .ok (.invokevirtual 125, 3) := by decide +kernel
theorem dX4_readNear_4 : decode cX4_readNear 4 = .ok (.istore_n 1, 1) := by decide +kernel
theorem dX4_readNear_5 : decode cX4_readNear 5 = .ok (.aload_n 0, 1) := by decide +kernel
theorem dX4_readNear_6 : decode cX4_readNear 6 = .ok (.getfield 11, 3) := by decide +kernel
theorem dX4_readNear_9 : decode cX4_readNear 9 = .ok (.sipush 261, 3) := by decide +kernel
theorem dX4_readNear_12 : decode cX4_readNear 12 = .ok (.if_icmp .eq 4, 3) := by decide +kernel
theorem dX4_readNear_15 : decode cX4_readNear 15 = .ok (.return_, 1) := by decide +kernel
theorem dX4_readNear_16 : decode cX4_readNear 16 = .ok (.aload_n 0, 1) := by decide +kernel
theorem dX4_readNear_17 : decode cX4_readNear 17 = .ok (.getfield 15, 3) := by decide +kernel
theorem dX4_readNear_20 : decode cX4_readNear 20 = .ok (.istore_n 2, 1) := by decide +kernel
theorem dX4_readNear_21 : decode cX4_readNear 21 = .ok (.aload_n 0, 1) := by decide +kernel
theorem dX4_readNear_22 : decode cX4_readNear 22 = .ok (.invokevirtual 57, 3) := by decide +kernel
theorem dX4_readNear_25 : decode cX4_readNear 25 = .ok (.aload_n 0, 1) := by decide +kernel
theorem dX4_readNear_26 : decode cX4_readNear 26 = .ok (.invokevirtual 128, 3) := by decide +kernel
theorem dX4_readNear_29 : decode cX4_readNear 29 = .ok (.istore_n 3, 1) := by decide +kernel
theorem dX4_readNear_30 : decode cX4_readNear 30 = .ok (.aload_n 0, 1) := by decide +kernel
theorem dX4_readNear_31 : decode cX4_readNear 31 = .ok (.invokevirtual 125, 3) := by decide +kernel
theorem dX4_readNear_34 : decode cX4_readNear 34 = .ok (.ifCond .eq 11, 3) := by decide +kernel
theorem dX4_readNear_37 : decode cX4_readNear 37 = .ok (.iload_n 1, 1) := by decide +kernel
theorem dX4_readNear_38 : decode cX4_readNear 38 = .ok (.ifCond .eq 7, 3) := by decide +kernel
theorem dX4_readNear_41 : decode cX4_readNear 41 = .ok (.iconst 1, 1) := by decide +kernel
theorem dX4_readNear_42 : decode cX4_readNear 42 = .ok (.goto 4, 3) := by decide +kernel
theorem dX4_readNear_45 : decode cX4_readNear 45 = .ok (.iconst 0, 1) := by decide +kernel
theorem dX4_readNear_46 : decode cX4_readNear 46 = .ok (.istore_n 1, 1) := by decide +kernel
theorem dX4_readNear_47 : decode cX4_readNear 47 = .ok (.iload_n 1, 1) := by decide +kernel
theorem dX4_readNear_48 : decode cX4_readNear 48 = .ok (.ifCond .ne 18, 3) := by decide +kernel
theorem dX4_readNear_51 : decode cX4_readNear 51 = .ok (.aload_n 0, 1) := by decide +kernel
theorem dX4_readNear_52 : decode cX4_readNear 52 = .ok (.getfield 27, 3) := by decide +kernel
theorem dX4_readNear_55 : decode cX4_readNear 55 = .ok (.ifCond .eq 11, 3) := by decide +kernel
theorem dX4_readNear_58 : decode cX4_readNear 58 = .ok (.aload_n 0, 1) := by decide +kernel
theorem dX4_readNear_59 : decode cX4_readNear 59 = .ok (.iload_n 2, 1) := by decide +kernel
theorem dX4_readNear_60 : decode cX4_readNear 60 = .ok (.putfield 24, 3) := by decide +kernel
theorem dX4_readNear_63 : decode cX4_readNear 63 = .ok (.goto 13, 3) := by decide +kernel
theorem dX4_readNear_66 : decode cX4_readNear 66 = .ok (.iload_n 1, 1) := by decide +kernel
theorem dX4_readNear_67 : decode cX4_readNear 67 = .ok (.ifCond .ne 9, 3) := by decide +kernel
theorem dX4_readNear_70 : decode cX4_readNear 70 = .ok (.aload_n 0, 1) := by decide +kernel
theorem dX4_readNear_71 : decode cX4_readNear 71 = .ok (.iconst 4, 1) := by decide +kernel
theorem dX4_readNear_72 : decode cX4_readNear 72 = .ok (.iload_n 2, 1) := by decide +kernel
theorem dX4_readNear_73 : decode cX4_readNear 73 = .ok (.invokevirtual 66, 3) := by decide +kernel
theorem dX4_readNear_76 : decode cX4_readNear 76 = .ok (.aload_n 0, 1) := by decide +kernel
theorem dX4_readNear_77 : decode cX4_readNear 77 = .ok (.getfield 48, 3) := by decide +kernel
theorem dX4_readNear_80 : decode cX4_readNear 80 = .ok (.iconst 5, 1) := by decide +kernel
theorem dX4_readNear_81 : decode cX4_readNear 81 = .ok (.iload_n 3, 1) := by decide +kernel
theorem dX4_readNear_82 : decode cX4_readNear 82 = .ok (.invokevirtual 109, 3) := by decide +kernel
theorem dX4_readNear_85 : decode cX4_readNear 85 = .ok (.return_, 1) := by decide +kernel
theorem dX4_readApart_0 : decode cX4_readApart 0 = .ok (.aload_n 0, 1) := by decide +kernel
theorem dX4_readApart_1 : decode cX4_readApart 1 = .ok (.getfield 11, 3) := by decide +kernel
theorem dX4_readApart_4 : decode cX4_readApart 4 = .ok (.sipush 257, 3) := by decide +kernel
theorem dX4_readApart_7 : decode cX4_readApart 7 = .ok (.if_icmp .ne 22, 3) := by decide +kernel
theorem dX4_readApart_10 : decode cX4_readApart 10 = .ok (.aload_n 0, 1) := by decide +kernel
theorem dX4_readApart_11 : decode cX4_readApart 11 = .ok (.getfield 37, 3) := by decide +kernel
theorem dX4_readApart_14 : decode cX4_readApart 14 = .ok (.aload_n 0, 1) := by decide +kernel
theorem dX4_readApart_15 : decode cX4_readApart 15 = .ok (.getfield 15, 3) := by decide +kernel
theorem dX4_readApart_18 : decode cX4_readApart 18 = .ok (.aload_n 0, 1) := by decide +kernel
theorem dX4_readApart_19 : decode cX4_readApart 19 = .ok (.getfield 18, 3) := by decide +kernel
theorem dX4_readApart_22 : decode cX4_readApart 22 = .ok (.iconst 3, 1) := by decide +kernel
theorem dX4_readApart_23 : decode cX4_readApart 23 = .ok (.invokevirtual 131, 3) := by decide +kernel
theorem dX4_readApart_26 : decode cX4_readApart 26 = .ok (.goto 4, 3) := by decide +kernel
theorem dX4_readApart_29 : decode cX4_readApart 29 = .ok (.iconst (-1), 1) := by decide +kernel
theorem dX4_readApart_30 : decode cX4_readApart 30 = .ok (.istore_n 1, 1) := by decide +kernel
theorem dX4_readApart_31 : decode cX4_readApart 31 = .ok (.iload_n 1, 1) := by decide +kernel
theorem dX4_readApart_32 : decode cX4_readApart 32 = .ok (.iconst (-1), 1) := by decide +kernel
theorem dX4_readApart_33 : decode cX4_readApart 33 = .ok (.if_icmp .ne 15, 3) := by decide +kernel
theorem dX4_readApart_36 : decode cX4_readApart 36 = .ok (.aload_n 0, 1) := by decide +kernel
theorem dX4_readApart_37 : decode cX4_readApart 37 = .ok (.iconst 1, 1) := by decide +kernel
theorem dX4_readApart_38 : decode cX4_readApart 38 = .ok (.aload_n 0, 1) := by decide +kernel
theorem dX4_readApart_39 : decode cX4_readApart 39 = .ok (.getfield 15, 3) := by decide +kernel
theorem dX4_readApart_42 : decode cX4_readApart 42 = .ok (.invokevirtual 66, 3) := by decide +kernel
theorem dX4_readApart_45 : decode cX4_readApart 45 = .ok (.goto 24, 3) := by decide +kernel
theorem dX4_readApart_48 : decode cX4_readApart 48 = .ok (.iload_n 1, 1) := by decide +kernel
theorem dX4_readApart_49 : decode cX4_readApart 49 = .ok (.iconst 1, 1) := by decide +kernel
theorem dX4_readApart_50 : decode cX4_readApart 50 = .ok (.if_icmp .lt 10, 3) := by decide +kernel
theorem dX4_readApart_53 : decode cX4_readApart 53 = .ok (.iload_n 1, 1) := by decide +kernel
theorem dX4_readApart_54 : decode cX4_readApart 54 = .ok (.sipush 200, 3) := by decide +kernel
theorem dX4_readApart_57 : decode cX4_readApart 57 = .ok (.if_icmp .le 12, 3) := by decide +kernel
theorem dX4_readApart_60 : decode cX4_readApart 60 = .ok (.aload_n 0, 1) := by decide +kernel
theorem dX4_readApart_61 : decode cX4_readApart 61 = .ok (.iconst 2, 1) := by decide +kernel
theorem dX4_readApart_62 : decode cX4_readApart 62 = .ok (.aload_n 0, 1) := by decide +kernel
theorem dX4_readApart_63 : decode cX4_readApart 63 = .ok (.getfield 15, 3) := by decide +kernel
theorem dX4_readApart_66 : decode cX4_readApart 66 = .ok (.invokevirtual 66, 3) := by decide +kernel
theorem dX4_readApart_69 : decode cX4_readApart 69 = .ok (.aload_n 0, 1) := by decide +kernel
theorem dX4_readApart_70 : decode cX4_readApart 70 = .ok (.invokevirtual 57, 3) := by decide +kernel
theorem dX4_readApart_73 : decode cX4_readApart 73 = .ok (.iload_n 1, 1) := by decide +kernel
theorem dX4_readApart_74 : decode cX4_readApart 74 = .ok (.ireturn, 1) := by decide +kernel
theorem dX4_readUnit_0 : decode cX4_readUnit 0 = .ok (.iconst 3, 1) := by decide +kernel
theorem dX4_readUnit_1 : decode cX4_readUnit 1 = .ok (.istore_n 1, 1) := by decide +kernel
theorem dX4_readUnit_2 : decode cX4_readUnit 2 = .ok (.iconst (-1), 1) := by decide +kernel
theorem dX4_readUnit_3 : decode cX4_readUnit 3 = .ok (.istore_n 2, 1) := by decide +kernel
theorem dX4_readUnit_4 : decode cX4_readUnit 4 = .ok (.iconst 0, 1) := by decide +kernel
theorem dX4_readUnit_5 : decode cX4_readUnit 5 = .ok (.istore_n 3, 1) := by decide +kernel
theorem dX4_readUnit_6 : decode cX4_readUnit 6 = .ok (.iconst 0, 1) := by decide +kernel
theorem dX4_readUnit_7 : decode cX4_readUnit 7 = .ok (.istore 4, 2) := by decide +kernel
theorem dX4_readUnit_9 : decode cX4_readUnit 9 = .ok (.iconst 0, 1) := by decide +kernel
theorem dX4_readUnit_10 : decode cX4_readUnit 10 = .ok (.istore 5, 2) := by decide +kernel
theorem dX4_readUnit_12 : decode cX4_readUnit 12 = .ok (.iload 5, 2) := by decide +kernel
theorem dX4_readUnit_14 : decode cX4_readUnit 14 = .ok (.bipush 12, 2) := by decide +kernel
theorem dX4_readUnit_16 : decode cX4_readUnit 16 = .ok (.if_icmp .gt 95, 3) := by decide +kernel
theorem dX4_readUnit_19 : decode cX4_readUnit 19 = .ok (.aload_n 0, 1) := by decide +kernel
theorem dX4_readUnit_20 : decode cX4_readUnit 20 = .ok (.getfield 11, 3) := by decide +kernel
theorem dX4_readUnit_23 : decode cX4_readUnit 23 = .ok (.sipush 262, 3) := by decide +kernel
theorem dX4_readUnit_26 : decode cX4_readUnit 26 = .ok (.if_icmp .eq 13, 3) := by decide +kernel
theorem dX4_readUnit_29 : decode cX4_readUnit 29 = .ok (.aload_n 0, 1) := by decide +kernel
theorem dX4_readUnit_30 : decode cX4_readUnit 30 = .ok (.getfield 11, 3) := by decide +kernel
theorem dX4_readUnit_33 : decode cX4_readUnit 33 = .ok (.sipush 263, 3) := by decide +kernel
theorem dX4_readUnit_36 : decode cX4_readUnit 36 = .ok (.if_icmp .ne 75, 3) := by decide +kernel
theorem dX4_readUnit_39 : decode cX4_readUnit 39 = .ok (.iload 5, 2) := by decide +kernel
theorem dX4_readUnit_41 : decode cX4_readUnit 41 = .ok (.bipush 12, 2) := by decide +kernel
theorem dX4_readUnit_43 : decode cX4_readUnit 43 = .ok (.if_icmp .ne 12, 3) := by decide +kernel
theorem dX4_readUnit_46 : decode cX4_readUnit 46 = .ok (.aload_n 0, 1) := by decide +kernel
theorem dX4_readUnit_47 : decode cX4_readUnit 47 = .ok (.iconst 3, 1) := by decide +kernel
theorem dX4_readUnit_48 : decode cX4_readUnit 48 = .ok (.aload_n 0, 1) := by decide +kernel
theorem dX4_readUnit_49 : decode cX4_readUnit 49 = .ok (.getfield 15, 3) := by decide +kernel
theorem dX4_readUnit_52 : decode cX4_readUnit 52 = .ok (.invokevirtual 66, 3) := by decide +kernel
theorem dX4_readUnit_55 : decode cX4_readUnit 55 = .ok (.iload_n 1, 1) := by decide +kernel
theorem dX4_readUnit_56 : decode cX4_readUnit 56 = .ok (.aload_n 0, 1) := by decide +kernel
theorem dX4_readUnit_57 : decode cX4_readUnit 57 = .ok (.getfield 11, 3) := by decide +kernel
theorem dX4_readUnit_60 : decode cX4_readUnit 60 = .ok (.sipush 262, 3) := by decide +kernel
theorem dX4_readUnit_63 : decode cX4_readUnit 63 = .ok (.if_icmp .ne 7, 3) := by decide +kernel
theorem dX4_readUnit_66 : decode cX4_readUnit 66 = .ok (.iconst 1, 1) := by decide +kernel
theorem dX4_readUnit_67 : decode cX4_readUnit 67 = .ok (.goto 4, 3) := by decide +kernel
theorem dX4_readUnit_70 : decode cX4_readUnit 70 = .ok (.iconst 2, 1) := by decide +kernel
theorem dX4_readUnit_71 : decode cX4_readUnit 71 = .ok (.iand, 1) := by decide +kernel
theorem dX4_readUnit_72 : decode cX4_readUnit 72 = .ok (.istore_n 1, 1) := by decide +kernel
theorem dX4_readUnit_73 : decode cX4_readUnit 73 = .ok (.iload_n 3, 1) := by decide +kernel
theorem dX4_readUnit_74 : decode cX4_readUnit 74 = .ok (.iconst 2, 1) := by decide +kernel
theorem dX4_readUnit_75 : decode cX4_readUnit 75 = .ok (.imul, 1) := by decide +kernel
theorem dX4_readUnit_76 : decode cX4_readUnit 76 = .ok (.aload_n 0, 1) := by decide +kernel
theorem dX4_readUnit_77 : decode cX4_readUnit 77 = .ok (.getfield 11, 3) := by decide +kernel
theorem dX4_readUnit_80 : decode cX4_readUnit 80 = .ok (.sipush 262, 3) := by decide +kernel
theorem dX4_readUnit_83 : decode cX4_readUnit 83 = .ok (.if_icmp .ne 7, 3) := by decide +kernel
theorem dX4_readUnit_86 : decode cX4_readUnit 86 = .ok (.iconst 0, 1) := by decide +kernel
theorem dX4_readUnit_87 : decode cX4_readUnit 87 = .ok (.goto 4, 3) := by decide +kernel
theorem dX4_readUnit_90 : decode cX4_readUnit 90 = .ok (.iconst 1, 1) := by decide +kernel
theorem dX4_readUnit_91 : decode cX4_readUnit 91 = .ok (.iadd, 1) := by decide +kernel
theorem dX4_readUnit_92 : decode cX4_readUnit 92 = .ok (.istore_n 3, 1) := by decide +kernel
theorem dX4_readUnit_93 : decode cX4_readUnit 93 = .ok (.iinc 4 1, 3) := by decide +kernel
theorem dX4_readUnit_96 : decode cX4_readUnit 96 = .ok (.aload_n 0, 1) := by decide +kernel
theorem dX4_readUnit_97 : decode cX4_readUnit 97 = .ok (.getfield 15, 3) := by decide +kernel
theorem dX4_readUnit_100 : decode cX4_readUnit 100 = .ok (.istore_n 2, 1) := by decide +kernel
theorem dX4_readUnit_101 : decode cX4_readUnit 101 = .ok (.aload_n 0, 1) := by decide +kernel
theorem dX4_readUnit_102 : decode cX4_readUnit 102 = .ok (.invokevirtual 57, 3) := by decide +kernel
theorem dX4_readUnit_105 : decode cX4_readUnit 105 = .ok (.iinc 5 1, 3) := by decide +kernel
theorem dX4_readUnit_108 : decode cX4_readUnit 108 = .ok (.goto (-96), 3) := by decide +kernel
theorem dX4_readUnit_111 : decode cX4_readUnit 111 = .ok (.aload_n 0, 1) := by decide +kernel
theorem dX4_readUnit_112 : decode cX4_readUnit 112 = .ok (.iload_n 1, 1) := by decide +kernel
theorem dX4_readUnit_113 : decode cX4_readUnit 113 = .ok (.invokevirtual 135, 3) := by decide +kernel
theorem dX4_readUnit_116 : decode cX4_readUnit 116 = .ok (.istore 5, 2) := by decide +kernel
theorem dX4_readUnit_118 : decode cX4_readUnit 118 = .ok (.iload 4, 2) := by decide +kernel
theorem dX4_readUnit_120 : decode cX4_readUnit 120 = .ok (.ifCond .le 14, 3) := by decide +kernel
theorem dX4_readUnit_123 : decode cX4_readUnit 123 = .ok (.iload 5, 2) := by decide +kernel
theorem dX4_readUnit_125 : decode cX4_readUnit 125 = .ok (.ifCond .ne 9, 3) := by decide +kernel
theorem dX4_readUnit_128 : decode cX4_readUnit 128 = .ok (.aload_n 0, 1) := by decide +kernel
theorem dX4_readUnit_129 : decode cX4_readUnit 129 = .ok (.iconst 4, 1) := by decide +kernel
theorem dX4_readUnit_130 : decode cX4_readUnit 130 = .ok (.iload_n 2, 1) := by decide +kernel
theorem dX4_readUnit_131 : decode cX4_readUnit 131 = .ok (.invokevirtual 66, 3) := by decide +kernel
theorem dX4_readUnit_134 : decode cX4_readUnit 134 = .ok (.iconst 0, 1) := by decide +kernel
theorem dX4_readUnit_135 : decode cX4_readUnit 135 = .ok (.istore 6, 2) := by decide +kernel
theorem dX4_readUnit_137 : decode cX4_readUnit 137 = .ok (.iload 6, 2) := by decide +kernel
theorem dX4_readUnit_139 : decode cX4_readUnit 139 = .ok (.iload 4, 2) := by decide +kernel
theorem dX4_readUnit_141 : decode cX4_readUnit 141 = .ok (.if_icmp .ge 33, 3) := by decide +kernel
theorem dX4_readUnit_144 : decode cX4_readUnit 144 = .ok (.aload_n 0, 1) := by decide +kernel
theorem dX4_readUnit_145 : decode cX4_readUnit 145 = .ok (.getfield 48, 3) := by decide +kernel
theorem dX4_readUnit_148 : decode cX4_readUnit 148 = .ok (.iload_n 3, 1) := by decide +kernel
theorem dX4_readUnit_149 : decode cX4_readUnit 149 = .ok (.iload 6, 2) := by decide +kernel
theorem dX4_readUnit_151 : decode cX4_readUnit 151 = .ok (.iushr, 1) := by decide +kernel
theorem dX4_readUnit_152 : decode cX4_readUnit 152 = .ok (.iconst 1, 1) := by decide +kernel
theorem dX4_readUnit_153 : decode cX4_readUnit 153 = .ok (.iand, 1) := by decide +kernel
theorem dX4_readUnit_154 : decode cX4_readUnit 154 = .ok (.ifCond .ne 8, 3) := by decide +kernel
theorem dX4_readUnit_157 : decode cX4_readUnit 157 = .ok (.bipush 6, 2) := by decide +kernel
theorem dX4_readUnit_159 : decode cX4_readUnit 159 = .ok (.goto 5, 3) := by decide +kernel
theorem dX4_readUnit_162 : decode cX4_readUnit 162 = .ok (.bipush 7, 2) := by decide +kernel
theorem dX4_readUnit_164 : decode cX4_readUnit 164 = .ok (.iconst 0, 1) := by decide +kernel
theorem dX4_readUnit_165 : decode cX4_readUnit 165 = .ok (.invokevirtual 116, 3) := by decide +kernel
theorem dX4_readUnit_168 : decode cX4_readUnit 168 = .ok (.iinc 6 1, 3) := by decide +kernel
theorem dX4_readUnit_171 : decode cX4_readUnit 171 = .ok (.goto (-34), 3) := by decide +kernel
theorem dX4_readUnit_174 : decode cX4_readUnit 174 = .ok (.iload 5, 2) := by decide +kernel
theorem dX4_readUnit_176 : decode cX4_readUnit 176 = .ok (.ireturn, 1) := by decide +kernel
theorem dX4_readBare_0 : decode cX4_readBare 0 = .ok (.aload_n 0, 1) := by decide +kernel
theorem dX4_readBare_1 : decode cX4_readBare 1 = .ok (.getfield 11, 3) := by decide +kernel
theorem dX4_readBare_4 : decode cX4_readBare 4 = .ok (.lookupswitch 70 #[(34, 56), (40, 44), (91, 50), (257, 63)], 44) := by decide +kernel
theorem dX4_readBare_48 : decode cX4_readBare 48 = .ok (.aload_n 0, 1) := by decide +kernel
theorem dX4_readBare_49 : decode cX4_readBare 49 = .ok (.invokevirtual 138, 3) := by decide +kernel
theorem dX4_readBare_52 : decode cX4_readBare 52 = .ok (.iconst 0, 1) := by decide +kernel
theorem dX4_readBare_53 : decode cX4_readBare 53 = .ok (.ireturn, 1) := by decide +kernel
theorem dX4_readBare_54 : decode cX4_readBare 54 = .ok (.aload_n 0, 1) := by decide +kernel
theorem dX4_readBare_55 : decode cX4_readBare 55 = .ok (.invokevirtual 141, 3) := by decide +kernel
theorem dX4_readBare_58 : decode cX4_readBare 58 = .ok (.iconst 0, 1) := by decide +kernel
theorem dX4_readBare_59 : decode cX4_readBare 59 = .ok (.ireturn, 1) := by decide +kernel
theorem dX4_readBare_60 : decode cX4_readBare 60 = .ok (.aload_n 0, 1) := by decide +kernel
theorem dX4_readBare_61 : decode cX4_readBare 61 = .ok (.iload_n 1, 1) := by decide +kernel
theorem dX4_readBare_62 : decode cX4_readBare 62 = .ok (.invokevirtual 144, 3) := by decide +kernel
theorem dX4_readBare_65 : decode cX4_readBare 65 = .ok (.iconst 1, 1) := by decide +kernel
theorem dX4_readBare_66 : decode cX4_readBare 66 = .ok (.ireturn, 1) := by decide +kernel
theorem dX4_readBare_67 : decode cX4_readBare 67 = .ok (.aload_n 0, 1) := by decide +kernel
theorem dX4_readBare_68 : decode cX4_readBare 68 = .ok (.iload_n 1, 1) := by decide +kernel
theorem dX4_readBare_69 : decode cX4_readBare 69 = .ok (.invokevirtual 148, 3) := by decide +kernel
theorem dX4_readBare_72 : decode cX4_readBare 72 = .ok (.iconst 1, 1) := by decide +kernel
theorem dX4_readBare_73 : decode cX4_readBare 73 = .ok (.ireturn, 1) := by decide +kernel
theorem dX4_readBare_74 : decode cX4_readBare 74 = .ok (.aload_n 0, 1) := by decide +kernel
theorem dX4_readBare_75 : decode cX4_readBare 75 = .ok (.iconst 1, 1) := by decide +kernel
theorem dX4_readBare_76 : decode cX4_readBare 76 = .ok (.aload_n 0, 1) := by decide +kernel
theorem dX4_readBare_77 : decode cX4_readBare 77 = .ok (.getfield 15, 3) := by decide +kernel
theorem dX4_readBare_80 : decode cX4_readBare 80 = .ok (.invokevirtual 66, 3) := by decide +kernel
theorem dX4_readBare_83 : decode cX4_readBare 83 = .ok (.iconst 0, 1) := by decide +kernel
theorem dX4_readBare_84 : decode cX4_readBare 84 = .ok (.ireturn, 1) := by decide +kernel
theorem dX4_readGroup_0 : decode cX4_readGroup 0 = .ok (.aload_n 0, 1) := by decide +kernel
theorem dX4_readGroup_1 : decode cX4_readGroup 1 = .ok (.getfield 34, 3) := by decide +kernel
theorem dX4_readGroup_4 : decode cX4_readGroup 4 = .ok (.bipush 12, 2) := by decide +kernel
theorem dX4_readGroup_6 : decode cX4_readGroup 6 = .ok (.if_icmp .lt 13, 3) := by decide +kernel
theorem dX4_readGroup_9 : decode cX4_readGroup 9 = .ok (.aload_n 0, 1) := by decide +kernel
theorem dX4_readGroup_10 : decode cX4_readGroup 10 = .ok (.iconst 3, 1) := by decide +kernel
theorem dX4_readGroup_11 : decode cX4_readGroup 11 = .ok (.aload_n 0, 1) := by decide +kernel
theorem dX4_readGroup_12 : decode cX4_readGroup 12 = .ok (.getfield 15, 3) := by decide +kernel
theorem dX4_readGroup_15 : decode cX4_readGroup 15 = .ok (.invokevirtual 66, 3) := by decide +kernel
theorem dX4_readGroup_18 : decode cX4_readGroup 18 = .ok (.return_, 1) := by decide +kernel
theorem dX4_readGroup_19 : decode cX4_readGroup 19 = .ok (.aload_n 0, 1) := by decide +kernel
theorem dX4_readGroup_20 : decode cX4_readGroup 20 = .ok (.dup, 1) := by decide +kernel
theorem dX4_readGroup_21 : decode cX4_readGroup 21 = .ok (.getfield 34, 3) := by decide +kernel
theorem dX4_readGroup_24 : decode cX4_readGroup 24 = .ok (.iconst 1, 1) := by decide +kernel
theorem dX4_readGroup_25 : decode cX4_readGroup 25 = .ok (.iadd, 1) := by decide +kernel
theorem dX4_readGroup_26 : decode cX4_readGroup 26 = .ok (.putfield 34, 3) := by decide +kernel
theorem dX4_readGroup_29 : decode cX4_readGroup 29 = .ok (.aload_n 0, 1) := by decide +kernel
theorem dX4_readGroup_30 : decode cX4_readGroup 30 = .ok (.invokevirtual 57, 3) := by decide +kernel
theorem dX4_readGroup_33 : decode cX4_readGroup 33 = .ok (.aload_n 0, 1) := by decide +kernel
theorem dX4_readGroup_34 : decode cX4_readGroup 34 = .ok (.invokevirtual 60, 3) := by decide +kernel
theorem dX4_readGroup_37 : decode cX4_readGroup 37 = .ok (.aload_n 0, 1) := by decide +kernel
theorem dX4_readGroup_38 : decode cX4_readGroup 38 = .ok (.bipush 41, 2) := by decide +kernel
theorem dX4_readGroup_40 : decode cX4_readGroup 40 = .ok (.invokevirtual 151, 3) := by decide +kernel
theorem dX4_readGroup_43 : decode cX4_readGroup 43 = .ok (.aload_n 0, 1) := by decide +kernel
theorem dX4_readGroup_44 : decode cX4_readGroup 44 = .ok (.dup, 1) := by decide +kernel
theorem dX4_readGroup_45 : decode cX4_readGroup 45 = .ok (.getfield 34, 3) := by decide +kernel
theorem dX4_readGroup_48 : decode cX4_readGroup 48 = .ok (.iconst 1, 1) := by decide +kernel
theorem dX4_readGroup_49 : decode cX4_readGroup 49 = .ok (.isub, 1) := by decide +kernel
theorem dX4_readGroup_50 : decode cX4_readGroup 50 = .ok (.putfield 34, 3) := by decide +kernel
theorem dX4_readGroup_53 : decode cX4_readGroup 53 = .ok (.aload_n 0, 1) := by decide +kernel
theorem dX4_readGroup_54 : decode cX4_readGroup 54 = .ok (.iconst 0, 1) := by decide +kernel
theorem dX4_readGroup_55 : decode cX4_readGroup 55 = .ok (.putfield 27, 3) := by decide +kernel
theorem dX4_readGroup_58 : decode cX4_readGroup 58 = .ok (.return_, 1) := by decide +kernel
theorem dX4_take_0 : decode cX4_take 0 = .ok (.aload_n 0, 1) := by decide +kernel
theorem dX4_take_1 : decode cX4_take 1 = .ok (.getfield 11, 3) := by decide +kernel
theorem dX4_take_4 : decode cX4_take 4 = .ok (.iload_n 1, 1) := by decide +kernel
theorem dX4_take_5 : decode cX4_take 5 = .ok (.if_icmp .eq 12, 3) := by decide +kernel
theorem dX4_take_8 : decode cX4_take 8 = .ok (.aload_n 0, 1) := by decide +kernel
theorem dX4_take_9 : decode cX4_take 9 = .ok (.iconst 1, 1) := by decide +kernel
theorem dX4_take_10 : decode cX4_take 10 = .ok (.aload_n 0, 1) := by decide +kernel
theorem dX4_take_11 : decode cX4_take 11 = .ok (.getfield 15, 3) := by decide +kernel
theorem dX4_take_14 : decode cX4_take 14 = .ok (.invokevirtual 66, 3) := by decide +kernel
theorem dX4_take_17 : decode cX4_take 17 = .ok (.aload_n 0, 1) := by decide +kernel
theorem dX4_take_18 : decode cX4_take 18 = .ok (.invokevirtual 57, 3) := by decide +kernel
theorem dX4_take_21 : decode cX4_take 21 = .ok (.return_, 1) := by decide +kernel
theorem dX4_readMarks_0 : decode cX4_readMarks 0 = .ok (.aload_n 0, 1) := by decide +kernel
theorem dX4_readMarks_1 : decode cX4_readMarks 1 = .ok (.invokevirtual 154, 3) := by decide +kernel
theorem dX4_readMarks_4 : decode cX4_readMarks 4 = .ok (.aload_n 0, 1) := by decide +kernel
theorem dX4_readMarks_5 : decode cX4_readMarks 5 = .ok (.invokevirtual 57, 3) := by decide +kernel
theorem dX4_readMarks_8 : decode cX4_readMarks 8 = .ok (.aload_n 0, 1) := by decide +kernel
theorem dX4_readMarks_9 : decode cX4_readMarks 9 = .ok (.ldc 157, 2) := by decide +kernel
theorem dX4_readMarks_11 : decode cX4_readMarks 11 = .ok (.invokevirtual 158, 3) := by decide +kernel
theorem dX4_readMarks_14 : decode cX4_readMarks 14 = .ok (.istore_n 1, 1) := by decide +kernel
theorem dX4_readMarks_15 : decode cX4_readMarks 15 = .ok (.aload_n 0, 1) := by decide +kernel
theorem dX4_readMarks_16 : decode cX4_readMarks 16 = .ok (.sipush 264, 3) := by decide +kernel
theorem dX4_readMarks_19 : decode cX4_readMarks 19 = .ok (.invokevirtual 151, 3) := by decide +kernel
theorem dX4_readMarks_22 : decode cX4_readMarks 22 = .ok (.aload_n 0, 1) := by decide +kernel
theorem dX4_readMarks_23 : decode cX4_readMarks 23 = .ok (.iload_n 1, 1) := by decide +kernel
