theorem dX11_bit_13 : decode cX11_bit 13 = .ok (.ifCond .lt 15, 3) := by decide +kernel
theorem dX11_bit_16 : decode cX11_bit 16 = .ok (.iload_n 1, 1) := by decide +kernel
theorem dX11_bit_17 : decode cX11_bit 17 = .ok (.aload_n 0, 1) := by decide +kernel
theorem dX11_bit_18 : decode cX11_bit 18 = .ok (.getfield 38, 3) := by decide +kernel
theorem dX11_bit_21 : decode cX11_bit 21 = .ok (.iload_n 2, 1) := by decide +kernel
theorem dX11_bit_22 : decode cX11_bit 22 = .ok (.invokevirtual 207, 3) := by decide +kernel
theorem dX11_bit_25 : decode cX11_bit 25 = .ok (.if_icmp .lt 13, 3) := by decide +kernel
theorem dX11_bit_28 : decode cX11_bit 28 = .ok (.new 182, 3) := by decide +kernel
theorem dX11_bit_31 : decode cX11_bit 31 = .ok (.dup, 1) := by decide +kernel
theorem dX11_bit_32 : decode cX11_bit 32 = .ok (.ldc 220, 2) := by decide +kernel
theorem dX11_bit_34 : decode cX11_bit 34 = .ok (.invokespecial 186, 3) := by decide +kernel
theorem dX11_bit_37 : decode cX11_bit 37 = .ok (.athrow, 1) := by decide +kernel
theorem dX11_bit_38 : decode cX11_bit 38 = .ok (.aload_n 0, 1) := by decide +kernel
theorem dX11_bit_39 : decode cX11_bit 39 = .ok (.getfield 38, 3) := by decide +kernel
theorem dX11_bit_42 : decode cX11_bit 42 = .ok (.iload_n 2, 1) := by decide +kernel
theorem dX11_bit_43 : decode cX11_bit 43 = .ok (.iload_n 1, 1) := by decide +kernel
theorem dX11_bit_44 : decode cX11_bit 44 = .ok (.invokevirtual 222, 3) := by decide +kernel
theorem dX11_bit_47 : decode cX11_bit 47 = .ok (.ireturn, 1) := by decide +kernel
theorem dX11_count_0 : decode cX11_count 0 = .ok (.iload_n 1, 1) := by decide +kernel
theorem dX11_count_1 : decode cX11_count 1 = .ok (.tableswitch 99 0 6 #[43, 51, 59, 67, 75, 83, 91], 43) := by decide +kernel
theorem dX11_count_44 : decode cX11_count 44 = .ok (.aload_n 0, 1) := by decide +kernel
theorem dX11_count_45 : decode cX11_count 45 = .ok (.getfield 31, 3) := by decide +kernel
theorem dX11_count_48 : decode cX11_count 48 = .ok (.invokevirtual 108, 3) := by decide +kernel
theorem dX11_count_51 : decode cX11_count 51 = .ok (.ireturn, 1) := by decide +kernel
theorem dX11_count_52 : decode cX11_count 52 = .ok (.aload_n 0, 1) := by decide +kernel
theorem dX11_count_53 : decode cX11_count 53 = .ok (.getfield 31, 3) := by decide +kernel
theorem dX11_count_56 : decode cX11_count 56 = .ok (.invokevirtual 226, 3) := by decide +kernel
theorem dX11_count_59 : decode cX11_count 59 = .ok (.ireturn, 1) := by decide +kernel
theorem dX11_count_60 : decode cX11_count 60 = .ok (.aload_n 0, 1) := by decide +kernel
theorem dX11_count_61 : decode cX11_count 61 = .ok (.getfield 21, 3) := by decide +kernel
theorem dX11_count_64 : decode cX11_count 64 = .ok (.invokevirtual 109, 3) := by decide +kernel
theorem dX11_count_67 : decode cX11_count 67 = .ok (.ireturn, 1) := by decide +kernel
theorem dX11_count_68 : decode cX11_count 68 = .ok (.aload_n 0, 1) := by decide +kernel
theorem dX11_count_69 : decode cX11_count 69 = .ok (.getfield 38, 3) := by decide +kernel
theorem dX11_count_72 : decode cX11_count 72 = .ok (.invokevirtual 145, 3) := by decide +kernel
theorem dX11_count_75 : decode cX11_count 75 = .ok (.ireturn, 1) := by decide +kernel
theorem dX11_count_76 : decode cX11_count 76 = .ok (.aload_n 0, 1) := by decide +kernel
theorem dX11_count_77 : decode cX11_count 77 = .ok (.getfield 38, 3) := by decide +kernel
theorem dX11_count_80 : decode cX11_count 80 = .ok (.invokevirtual 229, 3) := by decide +kernel
theorem dX11_count_83 : decode cX11_count 83 = .ok (.ireturn, 1) := by decide +kernel
theorem dX11_count_84 : decode cX11_count 84 = .ok (.aload_n 0, 1) := by decide +kernel
theorem dX11_count_85 : decode cX11_count 85 = .ok (.getfield 25, 3) := by decide +kernel
theorem dX11_count_88 : decode cX11_count 88 = .ok (.invokevirtual 109, 3) := by decide +kernel
theorem dX11_count_91 : decode cX11_count 91 = .ok (.ireturn, 1) := by decide +kernel
theorem dX11_count_92 : decode cX11_count 92 = .ok (.aload_n 0, 1) := by decide +kernel
theorem dX11_count_93 : decode cX11_count 93 = .ok (.getfield 12, 3) := by decide +kernel
theorem dX11_count_96 : decode cX11_count 96 = .ok (.invokevirtual 101, 3) := by decide +kernel
theorem dX11_count_99 : decode cX11_count 99 = .ok (.ireturn, 1) := by decide +kernel
theorem dX11_count_100 : decode cX11_count 100 = .ok (.iconst (-1), 1) := by decide +kernel
theorem dX11_count_101 : decode cX11_count 101 = .ok (.ireturn, 1) := by decide +kernel
theorem dX11_letter_0 : decode cX11_letter 0 = .ok (.iload_n 1, 1) := by decide +kernel
theorem dX11_letter_1 : decode cX11_letter 1 = .ok (.ifCond .lt 18, 3) := by decide +kernel
theorem dX11_letter_4 : decode cX11_letter 4 = .ok (.iload_n 1, 1) := by decide +kernel
theorem dX11_letter_5 : decode cX11_letter 5 = .ok (.aload_n 0, 1) := by decide +kernel
theorem dX11_letter_6 : decode cX11_letter 6 = .ok (.getfield 21, 3) := by decide +kernel
theorem dX11_letter_9 : decode cX11_letter 9 = .ok (.invokevirtual 109, 3) := by decide +kernel
theorem dX11_letter_12 : decode cX11_letter 12 = .ok (.if_icmp .ge 7, 3) := by decide +kernel
theorem dX11_letter_15 : decode cX11_letter 15 = .ok (.iload_n 2, 1) := by decide +kernel
theorem dX11_letter_16 : decode cX11_letter 16 = .ok (.ifCond .ge 13, 3) := by decide +kernel
theorem dX11_letter_19 : decode cX11_letter 19 = .ok (.new 182, 3) := by decide +kernel
theorem dX11_letter_22 : decode cX11_letter 22 = .ok (.dup, 1) := by decide +kernel
theorem dX11_letter_23 : decode cX11_letter 23 = .ok (.ldc 232, 2) := by decide +kernel
theorem dX11_letter_25 : decode cX11_letter 25 = .ok (.invokespecial 186, 3) := by decide +kernel
theorem dX11_letter_28 : decode cX11_letter 28 = .ok (.athrow, 1) := by decide +kernel
theorem dX11_letter_29 : decode cX11_letter 29 = .ok (.aload_n 0, 1) := by decide +kernel
theorem dX11_letter_30 : decode cX11_letter 30 = .ok (.getfield 21, 3) := by decide +kernel
theorem dX11_letter_33 : decode cX11_letter 33 = .ok (.iload_n 1, 1) := by decide +kernel
theorem dX11_letter_34 : decode cX11_letter 34 = .ok (.invokevirtual 234, 3) := by decide +kernel
theorem dX11_letter_37 : decode cX11_letter 37 = .ok (.iload_n 2, 1) := by decide +kernel
theorem dX11_letter_38 : decode cX11_letter 38 = .ok (.invokestatic 238, 3) := by decide +kernel
theorem dX11_letter_41 : decode cX11_letter 41 = .ok (.ireturn, 1) := by decide +kernel
theorem dX11_search_0 : decode cX11_search 0 = .ok (.aload_n 0, 1) := by decide +kernel
theorem dX11_search_1 : decode cX11_search 1 = .ok (.getfield 72, 3) := by decide +kernel
theorem dX11_search_4 : decode cX11_search 4 = .ok (.invokevirtual 242, 3) := by decide +kernel
theorem dX11_search_7 : decode cX11_search 7 = .ok (.istore_n 1, 1) := by decide +kernel
theorem dX11_search_8 : decode cX11_search 8 = .ok (.aload_n 0, 1) := by decide +kernel
theorem dX11_search_9 : decode cX11_search 9 = .ok (.getfield 12, 3) := by decide +kernel
theorem dX11_search_12 : decode cX11_search 12 = .ok (.invokevirtual 118, 3) := by decide +kernel
theorem dX11_search_15 : decode cX11_search 15 = .ok (.iload_n 1, 1) := by decide +kernel
theorem dX11_search_16 : decode cX11_search 16 = .ok (.ifCond .eq 10, 3) := by decide +kernel
theorem dX11_search_19 : decode cX11_search 19 = .ok (.aload_n 0, 1) := by decide +kernel
theorem dX11_search_20 : decode cX11_search 20 = .ok (.getfield 63, 3) := by decide +kernel
theorem dX11_search_23 : decode cX11_search 23 = .ok (.invokevirtual 244, 3) := by decide +kernel
theorem dX11_search_26 : decode cX11_search 26 = .ok (.aload_n 0, 1) := by decide +kernel
theorem dX11_search_27 : decode cX11_search 27 = .ok (.getfield 81, 3) := by decide +kernel
theorem dX11_search_30 : decode cX11_search 30 = .ok (.invokevirtual 245, 3) := by decide +kernel
theorem dX11_search_33 : decode cX11_search 33 = .ok (.iload_n 1, 1) := by decide +kernel
theorem dX11_search_34 : decode cX11_search 34 = .ok (.ifCond .eq 8, 3) := by decide +kernel
theorem dX11_search_37 : decode cX11_search 37 = .ok (.iload_n 1, 1) := by decide +kernel
theorem dX11_search_38 : decode cX11_search 38 = .ok (.ineg, 1) := by decide +kernel
theorem dX11_search_39 : decode cX11_search 39 = .ok (.goto 10, 3) := by decide +kernel
theorem dX11_search_42 : decode cX11_search 42 = .ok (.aload_n 0, 1) := by decide +kernel
theorem dX11_search_43 : decode cX11_search 43 = .ok (.getfield 81, 3) := by decide +kernel
theorem dX11_search_46 : decode cX11_search 46 = .ok (.invokevirtual 248, 3) := by decide +kernel
theorem dX11_search_49 : decode cX11_search 49 = .ok (.ireturn, 1) := by decide +kernel
theorem dX11_hit_0 : decode cX11_hit 0 = .ok (.iload_n 1, 1) := by decide +kernel
theorem dX11_hit_1 : decode cX11_hit 1 = .ok (.ifCond .ge 13, 3) := by decide +kernel
theorem dX11_hit_4 : decode cX11_hit 4 = .ok (.new 182, 3) := by decide +kernel
theorem dX11_hit_7 : decode cX11_hit 7 = .ok (.dup, 1) := by decide +kernel
theorem dX11_hit_8 : decode cX11_hit 8 = .ok (.ldc 251, 2) := by decide +kernel
theorem dX11_hit_10 : decode cX11_hit 10 = .ok (.invokespecial 186, 3) := by decide +kernel
theorem dX11_hit_13 : decode cX11_hit 13 = .ok (.athrow, 1) := by decide +kernel
theorem dX11_hit_14 : decode cX11_hit 14 = .ok (.aload_n 0, 1) := by decide +kernel
theorem dX11_hit_15 : decode cX11_hit 15 = .ok (.getfield 81, 3) := by decide +kernel
theorem dX11_hit_18 : decode cX11_hit 18 = .ok (.iload_n 1, 1) := by decide +kernel
theorem dX11_hit_19 : decode cX11_hit 19 = .ok (.invokevirtual 253, 3) := by decide +kernel
theorem dX11_hit_22 : decode cX11_hit 22 = .ok (.ireturn, 1) := by decide +kernel
theorem dX11_rank_0 : decode cX11_rank 0 = .ok (.iload_n 1, 1) := by decide +kernel
theorem dX11_rank_1 : decode cX11_rank 1 = .ok (.ifCond .lt 14, 3) := by decide +kernel
theorem dX11_rank_4 : decode cX11_rank 4 = .ok (.iload_n 1, 1) := by decide +kernel
theorem dX11_rank_5 : decode cX11_rank 5 = .ok (.aload_n 0, 1) := by decide +kernel
theorem dX11_rank_6 : decode cX11_rank 6 = .ok (.getfield 81, 3) := by decide +kernel
theorem dX11_rank_9 : decode cX11_rank 9 = .ok (.invokevirtual 248, 3) := by decide +kernel
theorem dX11_rank_12 : decode cX11_rank 12 = .ok (.if_icmp .lt 14, 3) := by decide +kernel
theorem dX11_rank_15 : decode cX11_rank 15 = .ok (.new 182, 3) := by decide +kernel
theorem dX11_rank_18 : decode cX11_rank 18 = .ok (.dup, 1) := by decide +kernel
theorem dX11_rank_19 : decode cX11_rank 19 = .ok (.ldc_w 256, 3) := by decide +kernel
theorem dX11_rank_22 : decode cX11_rank 22 = .ok (.invokespecial 186, 3) := by decide +kernel
theorem dX11_rank_25 : decode cX11_rank 25 = .ok (.athrow, 1) := by decide +kernel
theorem dX11_rank_26 : decode cX11_rank 26 = .ok (.iload_n 2, 1) := by decide +kernel
theorem dX11_rank_27 : decode cX11_rank 27 = .ok (.tableswitch 52 0 2 #[25, 34, 43], 25) := by decide +kernel
theorem dX11_rank_52 : decode cX11_rank 52 = .ok (.aload_n 0, 1) := by decide +kernel
theorem dX11_rank_53 : decode cX11_rank 53 = .ok (.getfield 81, 3) := by decide +kernel
theorem dX11_rank_56 : decode cX11_rank 56 = .ok (.iload_n 1, 1) := by decide +kernel
theorem dX11_rank_57 : decode cX11_rank 57 = .ok (.invokevirtual 258, 3) := by decide +kernel
theorem dX11_rank_60 : decode cX11_rank 60 = .ok (.ireturn, 1) := by decide +kernel
theorem dX11_rank_61 : decode cX11_rank 61 = .ok (.aload_n 0, 1) := by decide +kernel
theorem dX11_rank_62 : decode cX11_rank 62 = .ok (.getfield 81, 3) := by decide +kernel
theorem dX11_rank_65 : decode cX11_rank 65 = .ok (.iload_n 1, 1) := by decide +kernel
theorem dX11_rank_66 : decode cX11_rank 66 = .ok (.invokevirtual 261, 3) := by decide +kernel
theorem dX11_rank_69 : decode cX11_rank 69 = .ok (.ireturn, 1) := by decide +kernel
theorem dX11_rank_70 : decode cX11_rank 70 = .ok (.aload_n 0, 1) := by decide +kernel
theorem dX11_rank_71 : decode cX11_rank 71 = .ok (.getfield 81, 3) := by decide +kernel
theorem dX11_rank_74 : decode cX11_rank 74 = .ok (.iload_n 1, 1) := by decide +kernel
theorem dX11_rank_75 : decode cX11_rank 75 = .ok (.invokevirtual 264, 3) := by decide +kernel
theorem dX11_rank_78 : decode cX11_rank 78 = .ok (.ireturn, 1) := by decide +kernel
theorem dX11_rank_79 : decode cX11_rank 79 = .ok (.iconst (-1), 1) := by decide +kernel
theorem dX11_rank_80 : decode cX11_rank 80 = .ok (.ireturn, 1) := by decide +kernel
theorem dX11_code_0 : decode cX11_code 0 = .ok (.iload_n 1, 1) := by decide +kernel
theorem dX11_code_1 : decode cX11_code 1 = .ok (.ifCond .ge 14, 3) := by decide +kernel
theorem dX11_code_4 : decode cX11_code 4 = .ok (.new 182, 3) := by decide +kernel
theorem dX11_code_7 : decode cX11_code 7 = .ok (.dup, 1) := by decide +kernel
theorem dX11_code_8 : decode cX11_code 8 = .ok (.ldc_w 267, 3) := by decide +kernel
theorem dX11_code_11 : decode cX11_code 11 = .ok (.invokespecial 186, 3) := by decide +kernel
theorem dX11_code_14 : decode cX11_code 14 = .ok (.athrow, 1) := by decide +kernel
theorem dX11_code_15 : decode cX11_code 15 = .ok (.aload_n 0, 1) := by decide +kernel
theorem dX11_code_16 : decode cX11_code 16 = .ok (.getfield 63, 3) := by decide +kernel
theorem dX11_code_19 : decode cX11_code 19 = .ok (.iload_n 1, 1) := by decide +kernel
theorem dX11_code_20 : decode cX11_code 20 = .ok (.invokevirtual 269, 3) := by decide +kernel
theorem dX11_code_23 : decode cX11_code 23 = .ok (.ireturn, 1) := by decide +kernel
theorem dX11_deepest_0 : decode cX11_deepest 0 = .ok (.aload_n 0, 1) := by decide +kernel
theorem dX11_deepest_1 : decode cX11_deepest 1 = .ok (.getfield 63, 3) := by decide +kernel
theorem dX11_deepest_4 : decode cX11_deepest 4 = .ok (.invokevirtual 272, 3) := by decide +kernel
theorem dX11_deepest_7 : decode cX11_deepest 7 = .ok (.ireturn, 1) := by decide +kernel
theorem dX11_nearest_0 : decode cX11_nearest 0 = .ok (.aload_n 0, 1) := by decide +kernel
theorem dX11_nearest_1 : decode cX11_nearest 1 = .ok (.getfield 12, 3) := by decide +kernel
theorem dX11_nearest_4 : decode cX11_nearest 4 = .ok (.invokevirtual 165, 3) := by decide +kernel
theorem dX11_nearest_7 : decode cX11_nearest 7 = .ok (.lstore_n 1, 1) := by decide +kernel
theorem dX11_nearest_8 : decode cX11_nearest 8 = .ok (.aload_n 0, 1) := by decide +kernel
theorem dX11_nearest_9 : decode cX11_nearest 9 = .ok (.getfield 12, 3) := by decide +kernel
theorem dX11_nearest_12 : decode cX11_nearest 12 = .ok (.invokevirtual 118, 3) := by decide +kernel
theorem dX11_nearest_15 : decode cX11_nearest 15 = .ok (.lconst 0, 1) := by decide +kernel
theorem dX11_nearest_16 : decode cX11_nearest 16 = .ok (.lstore_n 3, 1) := by decide +kernel
theorem dX11_nearest_17 : decode cX11_nearest 17 = .ok (.iconst 3, 1) := by decide +kernel
theorem dX11_nearest_18 : decode cX11_nearest 18 = .ok (.istore 5, 2) := by decide +kernel
theorem dX11_nearest_20 : decode cX11_nearest 20 = .ok (.iconst 0, 1) := by decide +kernel
theorem dX11_nearest_21 : decode cX11_nearest 21 = .ok (.istore 6, 2) := by decide +kernel
theorem dX11_nearest_23 : decode cX11_nearest 23 = .ok (.iconst 0, 1) := by decide +kernel
theorem dX11_nearest_24 : decode cX11_nearest 24 = .ok (.istore 7, 2) := by decide +kernel
theorem dX11_nearest_26 : decode cX11_nearest 26 = .ok (.lload_n 1, 1) := by decide +kernel
theorem dX11_nearest_27 : decode cX11_nearest 27 = .ok (.lconst 0, 1) := by decide +kernel
theorem dX11_nearest_28 : decode cX11_nearest 28 = .ok (.lcmp, 1) := by decide +kernel
theorem dX11_nearest_29 : decode cX11_nearest 29 = .ok (.ifCond .eq 120, 3) := by decide +kernel
theorem dX11_nearest_32 : decode cX11_nearest 32 = .ok (.iload 7, 2) := by decide +kernel
theorem dX11_nearest_34 : decode cX11_nearest 34 = .ok (.aload_n 0, 1) := by decide +kernel
theorem dX11_nearest_35 : decode cX11_nearest 35 = .ok (.getfield 21, 3) := by decide +kernel
theorem dX11_nearest_38 : decode cX11_nearest 38 = .ok (.invokevirtual 109, 3) := by decide +kernel
theorem dX11_nearest_41 : decode cX11_nearest 41 = .ok (.if_icmp .ge 108, 3) := by decide +kernel
theorem dX11_nearest_44 : decode cX11_nearest 44 = .ok (.aload_n 0, 1) := by decide +kernel
theorem dX11_nearest_45 : decode cX11_nearest 45 = .ok (.getfield 21, 3) := by decide +kernel
theorem dX11_nearest_48 : decode cX11_nearest 48 = .ok (.lload_n 1, 1) := by decide +kernel
theorem dX11_nearest_49 : decode cX11_nearest 49 = .ok (.aload_n 0, 1) := by decide +kernel
theorem dX11_nearest_50 : decode cX11_nearest 50 = .ok (.getfield 21, 3) := by decide +kernel
theorem dX11_nearest_53 : decode cX11_nearest 53 = .ok (.iload 7, 2) := by decide +kernel
theorem dX11_nearest_55 : decode cX11_nearest 55 = .ok (.invokevirtual 234, 3) := by decide +kernel
theorem dX11_nearest_58 : decode cX11_nearest 58 = .ok (.iload 5, 2) := by decide +kernel
theorem dX11_nearest_60 : decode cX11_nearest 60 = .ok (.iconst 2, 1) := by decide +kernel
theorem dX11_nearest_61 : decode cX11_nearest 61 = .ok (.invokestatic 275, 3) := by decide +kernel
theorem dX11_nearest_64 : decode cX11_nearest 64 = .ok (.invokevirtual 280, 3) := by decide +kernel
theorem dX11_nearest_67 : decode cX11_nearest 67 = .ok (.istore 8, 2) := by decide +kernel
theorem dX11_nearest_69 : decode cX11_nearest 69 = .ok (.iload 8, 2) := by decide +kernel
theorem dX11_nearest_71 : decode cX11_nearest 71 = .ok (.iload 5, 2) := by decide +kernel
theorem dX11_nearest_73 : decode cX11_nearest 73 = .ok (.if_icmp .gt 70, 3) := by decide +kernel
theorem dX11_nearest_76 : decode cX11_nearest 76 = .ok (.iload 8, 2) := by decide +kernel
theorem dX11_nearest_78 : decode cX11_nearest 78 = .ok (.iconst 2, 1) := by decide +kernel
theorem dX11_nearest_79 : decode cX11_nearest 79 = .ok (.if_icmp .gt 64, 3) := by decide +kernel
theorem dX11_nearest_82 : decode cX11_nearest 82 = .ok (.aload_n 0, 1) := by decide +kernel
theorem dX11_nearest_83 : decode cX11_nearest 83 = .ok (.getfield 47, 3) := by decide +kernel
theorem dX11_nearest_86 : decode cX11_nearest 86 = .ok (.aload_n 0, 1) := by decide +kernel
theorem dX11_nearest_87 : decode cX11_nearest 87 = .ok (.getfield 21, 3) := by decide +kernel
theorem dX11_nearest_90 : decode cX11_nearest 90 = .ok (.iload 7, 2) := by decide +kernel
theorem dX11_nearest_92 : decode cX11_nearest 92 = .ok (.invokevirtual 175, 3) := by decide +kernel
theorem dX11_nearest_95 : decode cX11_nearest 95 = .ok (.invokevirtual 149, 3) := by decide +kernel
theorem dX11_nearest_98 : decode cX11_nearest 98 = .ok (.aload_n 0, 1) := by decide +kernel
theorem dX11_nearest_99 : decode cX11_nearest 99 = .ok (.getfield 47, 3) := by decide +kernel
theorem dX11_nearest_102 : decode cX11_nearest 102 = .ok (.aload_n 0, 1) := by decide +kernel
theorem dX11_nearest_103 : decode cX11_nearest 103 = .ok (.getfield 31, 3) := by decide +kernel
theorem dX11_nearest_106 : decode cX11_nearest 106 = .ok (.invokevirtual 213, 3) := by decide +kernel
theorem dX11_nearest_109 : decode cX11_nearest 109 = .ok (.istore 9, 2) := by decide +kernel
theorem dX11_nearest_111 : decode cX11_nearest 111 = .ok (.iload 8, 2) := by decide +kernel
theorem dX11_nearest_113 : decode cX11_nearest 113 = .ok (.iload 5, 2) := by decide +kernel
theorem dX11_nearest_115 : decode cX11_nearest 115 = .ok (.if_icmp .lt 10, 3) := by decide +kernel
theorem dX11_nearest_118 : decode cX11_nearest 118 = .ok (.iload 9, 2) := by decide +kernel
theorem dX11_nearest_120 : decode cX11_nearest 120 = .ok (.iload 6, 2) := by decide +kernel
theorem dX11_nearest_122 : decode cX11_nearest 122 = .ok (.if_icmp .le 21, 3) := by decide +kernel
theorem dX11_nearest_125 : decode cX11_nearest 125 = .ok (.aload_n 0, 1) := by decide +kernel
theorem dX11_nearest_126 : decode cX11_nearest 126 = .ok (.getfield 21, 3) := by decide +kernel
theorem dX11_nearest_129 : decode cX11_nearest 129 = .ok (.iload 7, 2) := by decide +kernel
theorem dX11_nearest_131 : decode cX11_nearest 131 = .ok (.invokevirtual 234, 3) := by decide +kernel
theorem dX11_nearest_134 : decode cX11_nearest 134 = .ok (.lstore_n 3, 1) := by decide +kernel
theorem dX11_nearest_135 : decode cX11_nearest 135 = .ok (.iload 8, 2) := by decide +kernel
theorem dX11_nearest_137 : decode cX11_nearest 137 = .ok (.istore 5, 2) := by decide +kernel
theorem dX11_nearest_139 : decode cX11_nearest 139 = .ok (.iload 9, 2) := by decide +kernel
theorem dX11_nearest_141 : decode cX11_nearest 141 = .ok (.istore 6, 2) := by decide +kernel
theorem dX11_nearest_143 : decode cX11_nearest 143 = .ok (.iinc 7 1, 3) := by decide +kernel
theorem dX11_nearest_146 : decode cX11_nearest 146 = .ok (.goto (-120), 3) := by decide +kernel
theorem dX11_nearest_149 : decode cX11_nearest 149 = .ok (.lload_n 3, 1) := by decide +kernel
theorem dX11_nearest_150 : decode cX11_nearest 150 = .ok (.lconst 0, 1) := by decide +kernel
theorem dX11_nearest_151 : decode cX11_nearest 151 = .ok (.lcmp, 1) := by decide +kernel
theorem dX11_nearest_152 : decode cX11_nearest 152 = .ok (.ifCond .ne 5, 3) := by decide +kernel
theorem dX11_nearest_155 : decode cX11_nearest 155 = .ok (.iconst (-1), 1) := by decide +kernel
theorem dX11_nearest_156 : decode cX11_nearest 156 = .ok (.ireturn, 1) := by decide +kernel
theorem dX11_nearest_157 : decode cX11_nearest 157 = .ok (.aload_n 0, 1) := by decide +kernel
theorem dX11_nearest_158 : decode cX11_nearest 158 = .ok (.lload_n 3, 1) := by decide +kernel
theorem dX11_nearest_159 : decode cX11_nearest 159 = .ok (.putfield 90, 3) := by decide +kernel
theorem dX11_nearest_162 : decode cX11_nearest 162 = .ok (.iload 5, 2) := by decide +kernel
theorem dX11_nearest_164 : decode cX11_nearest 164 = .ok (.ireturn, 1) := by decide +kernel
theorem dX11_like_0 : decode cX11_like 0 = .ok (.aload_n 0, 1) := by decide +kernel
theorem dX11_like_1 : decode cX11_like 1 = .ok (.getfield 31, 3) := by decide +kernel
theorem dX11_like_4 : decode cX11_like 4 = .ok (.iload_n 1, 1) := by decide +kernel
theorem dX11_like_5 : decode cX11_like 5 = .ok (.invokevirtual 189, 3) := by decide +kernel
theorem dX11_like_8 : decode cX11_like 8 = .ok (.ifCond .ne 14, 3) := by decide +kernel
theorem dX11_like_11 : decode cX11_like 11 = .ok (.new 182, 3) := by decide +kernel
theorem dX11_like_14 : decode cX11_like 14 = .ok (.dup, 1) := by decide +kernel
theorem dX11_like_15 : decode cX11_like 15 = .ok (.ldc_w 284, 3) := by decide +kernel
theorem dX11_like_18 : decode cX11_like 18 = .ok (.invokespecial 186, 3) := by decide +kernel
theorem dX11_like_21 : decode cX11_like 21 = .ok (.athrow, 1) := by decide +kernel
theorem dX11_like_22 : decode cX11_like 22 = .ok (.aload_n 0, 1) := by decide +kernel
theorem dX11_like_23 : decode cX11_like 23 = .ok (.getfield 81, 3) := by decide +kernel
theorem dX11_like_26 : decode cX11_like 26 = .ok (.iload_n 1, 1) := by decide +kernel
theorem dX11_like_27 : decode cX11_like 27 = .ok (.aload_n 0, 1) := by decide +kernel
theorem dX11_like_28 : decode cX11_like 28 = .ok (.getfield 47, 3) := by decide +kernel
theorem dX11_like_31 : decode cX11_like 31 = .ok (.invokevirtual 286, 3) := by decide +kernel
theorem dX11_like_34 : decode cX11_like 34 = .ok (.ireturn, 1) := by decide +kernel
theorem dX11_binaryDigits_0 : decode cX11_binaryDigits 0 = .ok (.bipush 32, 2) := by decide +kernel
theorem dX11_binaryDigits_2 : decode cX11_binaryDigits 2 = .ok (.iload_n 0, 1) := by decide +kernel
theorem dX11_binaryDigits_3 : decode cX11_binaryDigits 3 = .ok (.invokestatic 290, 3) := by decide +kernel
theorem dX11_binaryDigits_6 : decode cX11_binaryDigits 6 = .ok (.isub, 1) := by decide +kernel
theorem dX11_binaryDigits_7 : decode cX11_binaryDigits 7 = .ok (.ireturn, 1) := by decide +kernel
theorem dX11_rarity_0 : decode cX11_rarity 0 = .ok (.iload_n 1, 1) := by decide +kernel
theorem dX11_rarity_1 : decode cX11_rarity 1 = .ok (.ifCond .le 15, 3) := by decide +kernel
theorem dX11_rarity_4 : decode cX11_rarity 4 = .ok (.bipush 16, 2) := by decide +kernel
theorem dX11_rarity_6 : decode cX11_rarity 6 = .ok (.iload_n 0, 1) := by decide +kernel
theorem dX11_rarity_7 : decode cX11_rarity 7 = .ok (.imul, 1) := by decide +kernel
theorem dX11_rarity_8 : decode cX11_rarity 8 = .ok (.iload_n 1, 1) := by decide +kernel
theorem dX11_rarity_9 : decode cX11_rarity 9 = .ok (.idiv, 1) := by decide +kernel
theorem dX11_rarity_10 : decode cX11_rarity 10 = .ok (.invokestatic 295, 3) := by decide +kernel
theorem dX11_rarity_13 : decode cX11_rarity 13 = .ok (.goto 4, 3) := by decide +kernel
theorem dX11_rarity_16 : decode cX11_rarity 16 = .ok (.iconst 0, 1) := by decide +kernel
theorem dX11_rarity_17 : decode cX11_rarity 17 = .ok (.ireturn, 1) := by decide +kernel
theorem dX12_init_0 : decode cX12_init 0 = .ok (.aload_n 0, 1) := by decide +kernel
theorem dX12_init_1 : decode cX12_init 1 = .ok (.aconst_null, 1) := by decide +kernel
theorem dX12_init_2 : decode cX12_init 2 = .ok (.aconst_null, 1) := by decide +kernel
theorem dX12_init_3 : decode cX12_init 3 = .ok (.iconst 0, 1) := by decide +kernel
theorem dX12_init_4 : decode cX12_init 4 = .ok (.iconst 0, 1) := by decide +kernel
theorem dX12_init_5 : decode cX12_init 5 = .ok (.invokespecial 1, 3) := by decide +kernel
theorem dX12_init_8 : decode cX12_init 8 = .ok (.return_, 1) := by decide +kernel
theorem dX13_init_0 : decode cX13_init 0 = .ok (.aload_n 0, 1) := by decide +kernel
theorem dX13_init_1 : decode cX13_init 1 = .ok (.invokespecial 1, 3) := by decide +kernel
theorem dX13_init_4 : decode cX13_init 4 = .ok (.aload_n 0, 1) := by decide +kernel
theorem dX13_init_5 : decode cX13_init 5 = .ok (.sipush 600, 3) := by decide +kernel
theorem dX13_init_8 : decode cX13_init 8 = .ok (.newarray .byte, 2) := by decide +kernel
theorem dX13_init_10 : decode cX13_init 10 = .ok (.putfield 9, 3) := by decide +kernel
theorem dX13_init_13 : decode cX13_init 13 = .ok (.aload_n 0, 1) := by decide +kernel
theorem dX13_init_14 : decode cX13_init 14 = .ok (.sipush 4800, 3) := by decide +kernel
theorem dX13_init_17 : decode cX13_init 17 = .ok (.newarray .byte, 2) := by decide +kernel
theorem dX13_init_19 : decode cX13_init 19 = .ok (.putfield 13, 3) := by decide +kernel
theorem dX13_init_22 : decode cX13_init 22 = .ok (.aload_n 0, 1) := by decide +kernel
theorem dX13_init_23 : decode cX13_init 23 = .ok (.sipush 400, 3) := by decide +kernel
theorem dX13_init_26 : decode cX13_init 26 = .ok (.newarray .int, 2) := by decide +kernel
theorem dX13_init_28 : decode cX13_init 28 = .ok (.putfield 16, 3) := by decide +kernel
theorem dX13_init_31 : decode cX13_init 31 = .ok (.aload_n 0, 1) := by decide +kernel
theorem dX13_init_32 : decode cX13_init 32 = .ok (.ldc 20, 2) := by decide +kernel
theorem dX13_init_34 : decode cX13_init 34 = .ok (.newarray .short, 2) := by decide +kernel
theorem dX13_init_36 : decode cX13_init 36 = .ok (.putfield 21, 3) := by decide +kernel
theorem dX13_init_39 : decode cX13_init 39 = .ok (.aload_n 0, 1) := by decide +kernel
theorem dX13_init_40 : decode cX13_init 40 = .ok (.bipush 120, 2) := by decide +kernel
theorem dX13_init_42 : decode cX13_init 42 = .ok (.newarray .boolean, 2) := by decide +kernel
theorem dX13_init_44 : decode cX13_init 44 = .ok (.putfield 25, 3) := by decide +kernel
theorem dX13_init_47 : decode cX13_init 47 = .ok (.aload_n 0, 1) := by decide +kernel
theorem dX13_init_48 : decode cX13_init 48 = .ok (.bipush 120, 2) := by decide +kernel
theorem dX13_init_50 : decode cX13_init 50 = .ok (.newarray .boolean, 2) := by decide +kernel
theorem dX13_init_52 : decode cX13_init 52 = .ok (.putfield 29, 3) := by decide +kernel
theorem dX13_init_55 : decode cX13_init 55 = .ok (.aload_n 0, 1) := by decide +kernel
theorem dX13_init_56 : decode cX13_init 56 = .ok (.bipush 120, 2) := by decide +kernel
theorem dX13_init_58 : decode cX13_init 58 = .ok (.newarray .int, 2) := by decide +kernel
theorem dX13_init_60 : decode cX13_init 60 = .ok (.putfield 32, 3) := by decide +kernel
theorem dX13_init_63 : decode cX13_init 63 = .ok (.aload_n 0, 1) := by decide +kernel
theorem dX13_init_64 : decode cX13_init 64 = .ok (.bipush 120, 2) := by decide +kernel
theorem dX13_init_66 : decode cX13_init 66 = .ok (.newarray .int, 2) := by decide +kernel
theorem dX13_init_68 : decode cX13_init 68 = .ok (.putfield 35, 3) := by decide +kernel
theorem dX13_init_71 : decode cX13_init 71 = .ok (.aload_n 0, 1) := by decide +kernel
theorem dX13_init_72 : decode cX13_init 72 = .ok (.bipush 120, 2) := by decide +kernel
theorem dX13_init_74 : decode cX13_init 74 = .ok (.newarray .int, 2) := by decide +kernel
theorem dX13_init_76 : decode cX13_init 76 = .ok (.putfield 38, 3) := by decide +kernel
theorem dX13_init_79 : decode cX13_init 79 = .ok (.aload_n 0, 1) := by decide +kernel
theorem dX13_init_80 : decode cX13_init 80 = .ok (.bipush 120, 2) := by decide +kernel
theorem dX13_init_82 : decode cX13_init 82 = .ok (.newarray .int, 2) := by decide +kernel
theorem dX13_init_84 : decode cX13_init 84 = .ok (.putfield 41, 3) := by decide +kernel
theorem dX13_init_87 : decode cX13_init 87 = .ok (.aload_n 0, 1) := by decide +kernel
theorem dX13_init_88 : decode cX13_init 88 = .ok (.bipush 120, 2) := by decide +kernel
theorem dX13_init_90 : decode cX13_init 90 = .ok (.newarray .int, 2) := by decide +kernel
theorem dX13_init_92 : decode cX13_init 92 = .ok (.putfield 44, 3) := by decide +kernel
theorem dX13_init_95 : decode cX13_init 95 = .ok (.aload_n 0, 1) := by decide +kernel
theorem dX13_init_96 : decode cX13_init 96 = .ok (.bipush 120, 2) := by decide +kernel
theorem dX13_init_98 : decode cX13_init 98 = .ok (.newarray .byte, 2) := by decide +kernel
theorem dX13_init_100 : decode cX13_init 100 = .ok (.putfield 47, 3) := by decide +kernel
theorem dX13_init_103 : decode cX13_init 103 = .ok (.aload_n 0, 1) := by decide +kernel
theorem dX13_init_104 : decode cX13_init 104 = .ok (.bipush 10, 2) := by decide +kernel
theorem dX13_init_106 : decode cX13_init 106 = .ok (.newarray .int, 2) := by decide +kernel
theorem dX13_init_108 : decode cX13_init 108 = .ok (.putfield 50, 3) := by decide +kernel
theorem dX13_init_111 : decode cX13_init 111 = .ok (.aload_n 0, 1) := by decide +kernel
theorem dX13_init_112 : decode cX13_init 112 = .ok (.bipush 12, 2) := by decide +kernel
theorem dX13_init_114 : decode cX13_init 114 = .ok (.newarray .byte, 2) := by decide +kernel
theorem dX13_init_116 : decode cX13_init 116 = .ok (.putfield 53, 3) := by decide +kernel
theorem dX13_init_119 : decode cX13_init 119 = .ok (.aload_n 0, 1) := by decide +kernel
theorem dX13_init_120 : decode cX13_init 120 = .ok (.iconst (-1), 1) := by decide +kernel
theorem dX13_init_121 : decode cX13_init 121 = .ok (.putfield 56, 3) := by decide +kernel
theorem dX13_init_124 : decode cX13_init 124 = .ok (.aload_n 0, 1) := by decide +kernel
theorem dX13_init_125 : decode cX13_init 125 = .ok (.bipush 12, 2) := by decide +kernel
theorem dX13_init_127 : decode cX13_init 127 = .ok (.newarray .byte, 2) := by decide +kernel
theorem dX13_init_129 : decode cX13_init 129 = .ok (.putfield 60, 3) := by decide +kernel
theorem dX13_init_132 : decode cX13_init 132 = .ok (.aload_n 0, 1) := by decide +kernel
theorem dX13_init_133 : decode cX13_init 133 = .ok (.ldc 63, 2) := by decide +kernel
theorem dX13_init_135 : decode cX13_init 135 = .ok (.newarray .byte, 2) := by decide +kernel
theorem dX13_init_137 : decode cX13_init 137 = .ok (.putfield 64, 3) := by decide +kernel
theorem dX13_init_140 : decode cX13_init 140 = .ok (.aload_n 0, 1) := by decide +kernel
theorem dX13_init_141 : decode cX13_init 141 = .ok (.sipush 400, 3) := by decide +kernel
theorem dX13_init_144 : decode cX13_init 144 = .ok (.newarray .int, 2) := by decide +kernel
theorem dX13_init_146 : decode cX13_init 146 = .ok (.putfield 67, 3) := by decide +kernel
theorem dX13_init_149 : decode cX13_init 149 = .ok (.aload_n 0, 1) := by decide +kernel
theorem dX13_init_150 : decode cX13_init 150 = .ok (.sipush 400, 3) := by decide +kernel
theorem dX13_init_153 : decode cX13_init 153 = .ok (.newarray .int, 2) := by decide +kernel
theorem dX13_init_155 : decode cX13_init 155 = .ok (.putfield 70, 3) := by decide +kernel
theorem dX13_init_158 : decode cX13_init 158 = .ok (.aload_n 0, 1) := by decide +kernel
theorem dX13_init_159 : decode cX13_init 159 = .ok (.sipush 400, 3) := by decide +kernel
theorem dX13_init_162 : decode cX13_init 162 = .ok (.newarray .int, 2) := by decide +kernel
theorem dX13_init_164 : decode cX13_init 164 = .ok (.putfield 73, 3) := by decide +kernel
theorem dX13_init_167 : decode cX13_init 167 = .ok (.aload_n 0, 1) := by decide +kernel
theorem dX13_init_168 : decode cX13_init 168 = .ok (.sipush 400, 3) := by decide +kernel
theorem dX13_init_171 : decode cX13_init 171 = .ok (.newarray .int, 2) := by decide +kernel
theorem dX13_init_173 : decode cX13_init 173 = .ok (.putfield 76, 3) := by decide +kernel
theorem dX13_init_176 : decode cX13_init 176 = .ok (.aload_n 0, 1) := by decide +kernel
theorem dX13_init_177 : decode cX13_init 177 = .ok (.sipush 400, 3) := by decide +kernel
theorem dX13_init_180 : decode cX13_init 180 = .ok (.newarray .short, 2) := by decide +kernel
theorem dX13_init_182 : decode cX13_init 182 = .ok (.putfield 79, 3) := by decide +kernel
theorem dX13_init_185 : decode cX13_init 185 = .ok (.aload_n 0, 1) := by decide +kernel
theorem dX13_init_186 : decode cX13_init 186 = .ok (.new 82, 3) := by decide +kernel
theorem dX13_init_189 : decode cX13_init 189 = .ok (.dup, 1) := by decide +kernel
theorem dX13_init_190 : decode cX13_init 190 = .ok (.invokespecial 84, 3) := by decide +kernel
theorem dX13_init_193 : decode cX13_init 193 = .ok (.putfield 85, 3) := by decide +kernel
theorem dX13_init_196 : decode cX13_init 196 = .ok (.aload_n 0, 1) := by decide +kernel
theorem dX13_init_197 : decode cX13_init 197 = .ok (.sipush 1300, 3) := by decide +kernel
theorem dX13_init_200 : decode cX13_init 200 = .ok (.newarray .int, 2) := by decide +kernel
theorem dX13_init_202 : decode cX13_init 202 = .ok (.putfield 89, 3) := by decide +kernel
theorem dX13_init_205 : decode cX13_init 205 = .ok (.aload_n 0, 1) := by decide +kernel
theorem dX13_init_206 : decode cX13_init 206 = .ok (.sipush 1300, 3) := by decide +kernel
theorem dX13_init_209 : decode cX13_init 209 = .ok (.newarray .int, 2) := by decide +kernel
theorem dX13_init_211 : decode cX13_init 211 = .ok (.putfield 92, 3) := by decide +kernel
theorem dX13_init_214 : decode cX13_init 214 = .ok (.aload_n 0, 1) := by decide +kernel
theorem dX13_init_215 : decode cX13_init 215 = .ok (.sipush 1300, 3) := by decide +kernel
theorem dX13_init_218 : decode cX13_init 218 = .ok (.newarray .int, 2) := by decide +kernel
theorem dX13_init_220 : decode cX13_init 220 = .ok (.putfield 95, 3) := by decide +kernel
theorem dX13_init_223 : decode cX13_init 223 = .ok (.aload_n 0, 1) := by decide +kernel
theorem dX13_init_224 : decode cX13_init 224 = .ok (.sipush 1300, 3) := by decide +kernel
theorem dX13_init_227 : decode cX13_init 227 = .ok (.newarray .int, 2) := by decide +kernel
theorem dX13_init_229 : decode cX13_init 229 = .ok (.putfield 98, 3) := by decide +kernel
theorem dX13_init_232 : decode cX13_init 232 = .ok (.aload_n 0, 1) := by decide +kernel
theorem dX13_init_233 : decode cX13_init 233 = .ok (.bipush 40, 2) := by decide +kernel
theorem dX13_init_235 : decode cX13_init 235 = .ok (.newarray .int, 2) := by decide +kernel
theorem dX13_init_237 : decode cX13_init 237 = .ok (.putfield 101, 3) := by decide +kernel
theorem dX13_init_240 : decode cX13_init 240 = .ok (.aload_n 0, 1) := by decide +kernel
theorem dX13_init_241 : decode cX13_init 241 = .ok (.bipush 40, 2) := by decide +kernel
theorem dX13_init_243 : decode cX13_init 243 = .ok (.newarray .int, 2) := by decide +kernel
theorem dX13_init_245 : decode cX13_init 245 = .ok (.putfield 104, 3) := by decide +kernel
theorem dX13_init_248 : decode cX13_init 248 = .ok (.aload_n 0, 1) := by decide +kernel
theorem dX13_init_249 : decode cX13_init 249 = .ok (.bipush 40, 2) := by decide +kernel
theorem dX13_init_251 : decode cX13_init 251 = .ok (.newarray .int, 2) := by decide +kernel
theorem dX13_init_253 : decode cX13_init 253 = .ok (.putfield 107, 3) := by decide +kernel
theorem dX13_init_256 : decode cX13_init 256 = .ok (.aload_n 0, 1) := by decide +kernel
theorem dX13_init_257 : decode cX13_init 257 = .ok (.bipush 40, 2) := by decide +kernel
theorem dX13_init_259 : decode cX13_init 259 = .ok (.newarray .int, 2) := by decide +kernel
theorem dX13_init_261 : decode cX13_init 261 = .ok (.putfield 110, 3) := by decide +kernel
theorem dX13_init_264 : decode cX13_init 264 = .ok (.aload_n 0, 1) := by decide +kernel
theorem dX13_init_265 : decode cX13_init 265 = .ok (.sipush 2400, 3) := by decide +kernel
theorem dX13_init_268 : decode cX13_init 268 = .ok (.newarray .byte, 2) := by decide +kernel
theorem dX13_init_270 : decode cX13_init 270 = .ok (.putfield 113, 3) := by decide +kernel
theorem dX13_init_273 : decode cX13_init 273 = .ok (.aload_n 0, 1) := by decide +kernel
theorem dX13_init_274 : decode cX13_init 274 = .ok (.sipush 200, 3) := by decide +kernel
theorem dX13_init_277 : decode cX13_init 277 = .ok (.newarray .int, 2) := by decide +kernel
theorem dX13_init_279 : decode cX13_init 279 = .ok (.putfield 116, 3) := by decide +kernel
theorem dX13_init_282 : decode cX13_init 282 = .ok (.aload_n 0, 1) := by decide +kernel
theorem dX13_init_283 : decode cX13_init 283 = .ok (.sipush 1300, 3) := by decide +kernel
theorem dX13_init_286 : decode cX13_init 286 = .ok (.newarray .int, 2) := by decide +kernel
theorem dX13_init_288 : decode cX13_init 288 = .ok (.putfield 119, 3) := by decide +kernel
theorem dX13_init_291 : decode cX13_init 291 = .ok (.aload_n 0, 1) := by decide +kernel
theorem dX13_init_292 : decode cX13_init 292 = .ok (.sipush 1300, 3) := by decide +kernel
theorem dX13_init_295 : decode cX13_init 295 = .ok (.newarray .boolean, 2) := by decide +kernel
theorem dX13_init_297 : decode cX13_init 297 = .ok (.putfield 122, 3) := by decide +kernel
theorem dX13_init_300 : decode cX13_init 300 = .ok (.aload_n 0, 1) := by decide +kernel
theorem dX13_init_301 : decode cX13_init 301 = .ok (.sipush 168, 3) := by decide +kernel
theorem dX13_init_304 : decode cX13_init 304 = .ok (.newarray .int, 2) := by decide +kernel
theorem dX13_init_306 : decode cX13_init 306 = .ok (.putfield 125, 3) := by decide +kernel
theorem dX13_init_309 : decode cX13_init 309 = .ok (.aload_n 0, 1) := by decide +kernel
theorem dX13_init_310 : decode cX13_init 310 = .ok (.sipush 168, 3) := by decide +kernel
theorem dX13_init_313 : decode cX13_init 313 = .ok (.newarray .int, 2) := by decide +kernel
theorem dX13_init_315 : decode cX13_init 315 = .ok (.putfield 128, 3) := by decide +kernel
theorem dX13_init_318 : decode cX13_init 318 = .ok (.aload_n 0, 1) := by decide +kernel
theorem dX13_init_319 : decode cX13_init 319 = .ok (.sipush 200, 3) := by decide +kernel
theorem dX13_init_322 : decode cX13_init 322 = .ok (.newarray .int, 2) := by decide +kernel
theorem dX13_init_324 : decode cX13_init 324 = .ok (.putfield 131, 3) := by decide +kernel
theorem dX13_init_327 : decode cX13_init 327 = .ok (.aload_n 0, 1) := by decide +kernel
theorem dX13_init_328 : decode cX13_init 328 = .ok (.sipush 16000, 3) := by decide +kernel
theorem dX13_init_331 : decode cX13_init 331 = .ok (.newarray .boolean, 2) := by decide +kernel
theorem dX13_init_333 : decode cX13_init 333 = .ok (.putfield 134, 3) := by decide +kernel
theorem dX13_init_336 : decode cX13_init 336 = .ok (.aload_n 0, 1) := by decide +kernel
theorem dX13_init_337 : decode cX13_init 337 = .ok (.bipush 40, 2) := by decide +kernel
theorem dX13_init_339 : decode cX13_init 339 = .ok (.newarray .boolean, 2) := by decide +kernel
theorem dX13_init_341 : decode cX13_init 341 = .ok (.putfield 137, 3) := by decide +kernel
theorem dX13_init_344 : decode cX13_init 344 = .ok (.aload_n 0, 1) := by decide +kernel
theorem dX13_init_345 : decode cX13_init 345 = .ok (.bipush 40, 2) := by decide +kernel
theorem dX13_init_347 : decode cX13_init 347 = .ok (.newarray .int, 2) := by decide +kernel
theorem dX13_init_349 : decode cX13_init 349 = .ok (.putfield 140, 3) := by decide +kernel
theorem dX13_init_352 : decode cX13_init 352 = .ok (.aload_n 0, 1) := by decide +kernel
theorem dX13_init_353 : decode cX13_init 353 = .ok (.bipush 40, 2) := by decide +kernel
theorem dX13_init_355 : decode cX13_init 355 = .ok (.newarray .int, 2) := by decide +kernel
theorem dX13_init_357 : decode cX13_init 357 = .ok (.putfield 143, 3) := by decide +kernel
theorem dX13_init_360 : decode cX13_init 360 = .ok (.aload_n 0, 1) := by decide +kernel
theorem dX13_init_361 : decode cX13_init 361 = .ok (.sipush 1034, 3) := by decide +kernel
theorem dX13_init_364 : decode cX13_init 364 = .ok (.newarray .boolean, 2) := by decide +kernel
theorem dX13_init_366 : decode cX13_init 366 = .ok (.putfield 146, 3) := by decide +kernel
theorem dX13_init_369 : decode cX13_init 369 = .ok (.aload_n 0, 1) := by decide +kernel
theorem dX13_init_370 : decode cX13_init 370 = .ok (.bipush 120, 2) := by decide +kernel
theorem dX13_init_372 : decode cX13_init 372 = .ok (.newarray .int, 2) := by decide +kernel
theorem dX13_init_374 : decode cX13_init 374 = .ok (.putfield 149, 3) := by decide +kernel
theorem dX13_init_377 : decode cX13_init 377 = .ok (.aload_n 0, 1) := by decide +kernel
theorem dX13_init_378 : decode cX13_init 378 = .ok (.bipush 120, 2) := by decide +kernel
theorem dX13_init_380 : decode cX13_init 380 = .ok (.newarray .int, 2) := by decide +kernel
theorem dX13_init_382 : decode cX13_init 382 = .ok (.putfield 152, 3) := by decide +kernel
theorem dX13_init_385 : decode cX13_init 385 = .ok (.aload_n 0, 1) := by decide +kernel
theorem dX13_init_386 : decode cX13_init 386 = .ok (.bipush 120, 2) := by decide +kernel
theorem dX13_init_388 : decode cX13_init 388 = .ok (.newarray .int, 2) := by decide +kernel
theorem dX13_init_390 : decode cX13_init 390 = .ok (.putfield 155, 3) := by decide +kernel
theorem dX13_init_393 : decode cX13_init 393 = .ok (.aload_n 0, 1) := by decide +kernel
theorem dX13_init_394 : decode cX13_init 394 = .ok (.bipush 120, 2) := by decide +kernel
theorem dX13_init_396 : decode cX13_init 396 = .ok (.newarray .int, 2) := by decide +kernel
theorem dX13_init_398 : decode cX13_init 398 = .ok (.putfield 158, 3) := by decide +kernel
theorem dX13_init_401 : decode cX13_init 401 = .ok (.aload_n 0, 1) := by decide +kernel
theorem dX13_init_402 : decode cX13_init 402 = .ok (.bipush 13, 2) := by decide +kernel
theorem dX13_init_404 : decode cX13_init 404 = .ok (.newarray .int, 2) := by decide +kernel
theorem dX13_init_406 : decode cX13_init 406 = .ok (.putfield 161, 3) := by decide +kernel
theorem dX13_init_409 : decode cX13_init 409 = .ok (.aload_n 0, 1) := by decide +kernel
theorem dX13_init_410 : decode cX13_init 410 = .ok (.sipush 400, 3) := by decide +kernel
theorem dX13_init_413 : decode cX13_init 413 = .ok (.newarray .int, 2) := by decide +kernel
theorem dX13_init_415 : decode cX13_init 415 = .ok (.putfield 164, 3) := by decide +kernel
theorem dX13_init_418 : decode cX13_init 418 = .ok (.aload_n 0, 1) := by decide +kernel
theorem dX13_init_419 : decode cX13_init 419 = .ok (.sipush 400, 3) := by decide +kernel
theorem dX13_init_422 : decode cX13_init 422 = .ok (.newarray .int, 2) := by decide +kernel
theorem dX13_init_424 : decode cX13_init 424 = .ok (.putfield 167, 3) := by decide +kernel
theorem dX13_init_427 : decode cX13_init 427 = .ok (.return_, 1) := by decide +kernel
theorem dX13_thrown_0 : decode cX13_thrown 0 = .ok (.aload_n 0, 1) := by decide +kernel
theorem dX13_thrown_1 : decode cX13_thrown 1 = .ok (.getfield 170, 3) := by decide +kernel
theorem dX13_thrown_4 : decode cX13_thrown 4 = .ok (.ireturn, 1) := by decide +kernel
theorem dX13_refuse_0 : decode cX13_refuse 0 = .ok (.aload_n 0, 1) := by decide +kernel
theorem dX13_refuse_1 : decode cX13_refuse 1 = .ok (.iconst 1, 1) := by decide +kernel
theorem dX13_refuse_2 : decode cX13_refuse 2 = .ok (.putfield 170, 3) := by decide +kernel
theorem dX13_refuse_5 : decode cX13_refuse 5 = .ok (.iconst 0, 1) := by decide +kernel
theorem dX13_refuse_6 : decode cX13_refuse 6 = .ok (.ireturn, 1) := by decide +kernel
theorem dX13_feed_0 : decode cX13_feed 0 = .ok (.aload_n 0, 1) := by decide +kernel
theorem dX13_feed_1 : decode cX13_feed 1 = .ok (.iconst 0, 1) := by decide +kernel
theorem dX13_feed_2 : decode cX13_feed 2 = .ok (.putfield 170, 3) := by decide +kernel
theorem dX13_feed_5 : decode cX13_feed 5 = .ok (.aload_n 0, 1) := by decide +kernel
theorem dX13_feed_6 : decode cX13_feed 6 = .ok (.getfield 173, 3) := by decide +kernel
theorem dX13_feed_9 : decode cX13_feed 9 = .ok (.bipush 20, 2) := by decide +kernel
theorem dX13_feed_11 : decode cX13_feed 11 = .ok (.iadd, 1) := by decide +kernel
theorem dX13_feed_12 : decode cX13_feed 12 = .ok (.sipush 600, 3) := by decide +kernel
theorem dX13_feed_15 : decode cX13_feed 15 = .ok (.if_icmp .le 6, 3) := by decide +kernel
theorem dX13_feed_18 : decode cX13_feed 18 = .ok (.bipush (-2), 2) := by decide +kernel
theorem dX13_feed_20 : decode cX13_feed 20 = .ok (.ireturn, 1) := by decide +kernel
theorem dX13_feed_21 : decode cX13_feed 21 = .ok (.aload_n 0, 1) := by decide +kernel
theorem dX13_feed_22 : decode cX13_feed 22 = .ok (.iload_n 1, 1) := by decide +kernel
theorem dX13_feed_23 : decode cX13_feed 23 = .ok (.invokevirtual 176, 3) := by decide +kernel
theorem dX13_feed_26 : decode cX13_feed 26 = .ok (.aload_n 0, 1) := by decide +kernel
theorem dX13_feed_27 : decode cX13_feed 27 = .ok (.iload_n 2, 1) := by decide +kernel
theorem dX13_feed_28 : decode cX13_feed 28 = .ok (.invokevirtual 176, 3) := by decide +kernel
theorem dX13_feed_31 : decode cX13_feed 31 = .ok (.aload_n 0, 1) := by decide +kernel
theorem dX13_feed_32 : decode cX13_feed 32 = .ok (.iload_n 3, 1) := by decide +kernel
theorem dX13_feed_33 : decode cX13_feed 33 = .ok (.invokevirtual 176, 3) := by decide +kernel
theorem dX13_feed_36 : decode cX13_feed 36 = .ok (.aload_n 0, 1) := by decide +kernel
theorem dX13_feed_37 : decode cX13_feed 37 = .ok (.iload 4, 2) := by decide +kernel
theorem dX13_feed_39 : decode cX13_feed 39 = .ok (.invokevirtual 176, 3) := by decide +kernel
theorem dX13_feed_42 : decode cX13_feed 42 = .ok (.aload_n 0, 1) := by decide +kernel
theorem dX13_feed_43 : decode cX13_feed 43 = .ok (.iload 5, 2) := by decide +kernel
theorem dX13_feed_45 : decode cX13_feed 45 = .ok (.invokevirtual 176, 3) := by decide +kernel
theorem dX13_feed_48 : decode cX13_feed 48 = .ok (.aload_n 0, 1) := by decide +kernel
theorem dX13_feed_49 : decode cX13_feed 49 = .ok (.getfield 173, 3) := by decide +kernel
theorem dX13_feed_52 : decode cX13_feed 52 = .ok (.ireturn, 1) := by decide +kernel
theorem dX13_lay_0 : decode cX13_lay 0 = .ok (.bipush 24, 2) := by decide +kernel
theorem dX13_lay_2 : decode cX13_lay 2 = .ok (.istore_n 2, 1) := by decide +kernel
theorem dX13_lay_3 : decode cX13_lay 3 = .ok (.iload_n 2, 1) := by decide +kernel
theorem dX13_lay_4 : decode cX13_lay 4 = .ok (.ifCond .lt 32, 3) := by decide +kernel
theorem dX13_lay_7 : decode cX13_lay 7 = .ok (.aload_n 0, 1) := by decide +kernel
theorem dX13_lay_8 : decode cX13_lay 8 = .ok (.getfield 9, 3) := by decide +kernel
theorem dX13_lay_11 : decode cX13_lay 11 = .ok (.aload_n 0, 1) := by decide +kernel
theorem dX13_lay_12 : decode cX13_lay 12 = .ok (.getfield 173, 3) := by decide +kernel
theorem dX13_lay_15 : decode cX13_lay 15 = .ok (.iload_n 1, 1) := by decide +kernel
theorem dX13_lay_16 : decode cX13_lay 16 = .ok (.iload_n 2, 1) := by decide +kernel
theorem dX13_lay_17 : decode cX13_lay 17 = .ok (.ishr, 1) := by decide +kernel
theorem dX13_lay_18 : decode cX13_lay 18 = .ok (.i2b, 1) := by decide +kernel
theorem dX13_lay_19 : decode cX13_lay 19 = .ok (.bastore, 1) := by decide +kernel
theorem dX13_lay_20 : decode cX13_lay 20 = .ok (.aload_n 0, 1) := by decide +kernel
theorem dX13_lay_21 : decode cX13_lay 21 = .ok (.dup, 1) := by decide +kernel
theorem dX13_lay_22 : decode cX13_lay 22 = .ok (.getfield 173, 3) := by decide +kernel
theorem dX13_lay_25 : decode cX13_lay 25 = .ok (.iconst 1, 1) := by decide +kernel
theorem dX13_lay_26 : decode cX13_lay 26 = .ok (.iadd, 1) := by decide +kernel
theorem dX13_lay_27 : decode cX13_lay 27 = .ok (.putfield 173, 3) := by decide +kernel
theorem dX13_lay_30 : decode cX13_lay 30 = .ok (.iinc 2 (-8), 3) := by decide +kernel
theorem dX13_lay_33 : decode cX13_lay 33 = .ok (.goto (-30), 3) := by decide +kernel
theorem dX13_lay_36 : decode cX13_lay 36 = .ok (.return_, 1) := by decide +kernel
theorem dX13_end_0 : decode cX13_end 0 = .ok (.aload_n 0, 1) := by decide +kernel
theorem dX13_end_1 : decode cX13_end 1 = .ok (.iconst 0, 1) := by decide +kernel
theorem dX13_end_2 : decode cX13_end 2 = .ok (.putfield 170, 3) := by decide +kernel
theorem dX13_end_5 : decode cX13_end 5 = .ok (.iload_n 1, 1) := by decide +kernel
theorem dX13_end_6 : decode cX13_end 6 = .ok (.ifCond .lt 11, 3) := by decide +kernel
theorem dX13_end_9 : decode cX13_end 9 = .ok (.iload_n 1, 1) := by decide +kernel
theorem dX13_end_10 : decode cX13_end 10 = .ok (.aload_n 0, 1) := by decide +kernel
theorem dX13_end_11 : decode cX13_end 11 = .ok (.getfield 173, 3) := by decide +kernel
theorem dX13_end_14 : decode cX13_end 14 = .ok (.if_icmp .le 5, 3) := by decide +kernel
theorem dX13_end_17 : decode cX13_end 17 = .ok (.iconst (-1), 1) := by decide +kernel
theorem dX13_end_18 : decode cX13_end 18 = .ok (.ireturn, 1) := by decide +kernel
theorem dX13_end_19 : decode cX13_end 19 = .ok (.aload_n 0, 1) := by decide +kernel
theorem dX13_end_20 : decode cX13_end 20 = .ok (.iload_n 1, 1) := by decide +kernel
theorem dX13_end_21 : decode cX13_end 21 = .ok (.putfield 173, 3) := by decide +kernel
theorem dX13_end_24 : decode cX13_end 24 = .ok (.iload_n 1, 1) := by decide +kernel
theorem dX13_end_25 : decode cX13_end 25 = .ok (.ireturn, 1) := by decide +kernel
theorem dX13_isDigit_0 : decode cX13_isDigit 0 = .ok (.iload_n 0, 1) := by decide +kernel
theorem dX13_isDigit_1 : decode cX13_isDigit 1 = .ok (.bipush 48, 2) := by decide +kernel
theorem dX13_isDigit_3 : decode cX13_isDigit 3 = .ok (.if_icmp .lt 13, 3) := by decide +kernel
theorem dX13_isDigit_6 : decode cX13_isDigit 6 = .ok (.iload_n 0, 1) := by decide +kernel
theorem dX13_isDigit_7 : decode cX13_isDigit 7 = .ok (.bipush 57, 2) := by decide +kernel
theorem dX13_isDigit_9 : decode cX13_isDigit 9 = .ok (.if_icmp .gt 7, 3) := by decide +kernel
theorem dX13_isDigit_12 : decode cX13_isDigit 12 = .ok (.iconst 1, 1) := by decide +kernel
theorem dX13_isDigit_13 : decode cX13_isDigit 13 = .ok (.goto 4, 3) := by decide +kernel
theorem dX13_isDigit_16 : decode cX13_isDigit 16 = .ok (.iconst 0, 1) := by decide +kernel
theorem dX13_isDigit_17 : decode cX13_isDigit 17 = .ok (.ireturn, 1) := by decide +kernel
theorem dX13_isSmall_0 : decode cX13_isSmall 0 = .ok (.iload_n 0, 1) := by decide +kernel
theorem dX13_isSmall_1 : decode cX13_isSmall 1 = .ok (.bipush 97, 2) := by decide +kernel
theorem dX13_isSmall_3 : decode cX13_isSmall 3 = .ok (.if_icmp .lt 13, 3) := by decide +kernel
theorem dX13_isSmall_6 : decode cX13_isSmall 6 = .ok (.iload_n 0, 1) := by decide +kernel
theorem dX13_isSmall_7 : decode cX13_isSmall 7 = .ok (.bipush 122, 2) := by decide +kernel
theorem dX13_isSmall_9 : decode cX13_isSmall 9 = .ok (.if_icmp .gt 7, 3) := by decide +kernel
theorem dX13_isSmall_12 : decode cX13_isSmall 12 = .ok (.iconst 1, 1) := by decide +kernel
theorem dX13_isSmall_13 : decode cX13_isSmall 13 = .ok (.goto 4, 3) := by decide +kernel
theorem dX13_isSmall_16 : decode cX13_isSmall 16 = .ok (.iconst 0, 1) := by decide +kernel
theorem dX13_isSmall_17 : decode cX13_isSmall 17 = .ok (.ireturn, 1) := by decide +kernel
theorem dX13_isGreat_0 : decode cX13_isGreat 0 = .ok (.iload_n 0, 1) := by decide +kernel
theorem dX13_isGreat_1 : decode cX13_isGreat 1 = .ok (.bipush 65, 2) := by decide +kernel
theorem dX13_isGreat_3 : decode cX13_isGreat 3 = .ok (.if_icmp .lt 13, 3) := by decide +kernel
theorem dX13_isGreat_6 : decode cX13_isGreat 6 = .ok (.iload_n 0, 1) := by decide +kernel
theorem dX13_isGreat_7 : decode cX13_isGreat 7 = .ok (.bipush 90, 2) := by decide +kernel
theorem dX13_isGreat_9 : decode cX13_isGreat 9 = .ok (.if_icmp .gt 7, 3) := by decide +kernel
theorem dX13_isGreat_12 : decode cX13_isGreat 12 = .ok (.iconst 1, 1) := by decide +kernel
theorem dX13_isGreat_13 : decode cX13_isGreat 13 = .ok (.goto 4, 3) := by decide +kernel
theorem dX13_isGreat_16 : decode cX13_isGreat 16 = .ok (.iconst 0, 1) := by decide +kernel
theorem dX13_isGreat_17 : decode cX13_isGreat 17 = .ok (.ireturn, 1) := by decide +kernel
theorem dX13_isToken_0 : decode cX13_isToken 0 = .ok (.iload_n 0, 1) := by decide +kernel
theorem dX13_isToken_1 : decode cX13_isToken 1 = .ok (.invokestatic 180, 3) := by decide +kernel
theorem dX13_isToken_4 : decode cX13_isToken 4 = .ok (.ifCond .ne 17, 3) := by decide +kernel
theorem dX13_isToken_7 : decode cX13_isToken 7 = .ok (.iload_n 0, 1) := by decide +kernel
theorem dX13_isToken_8 : decode cX13_isToken 8 = .ok (.invokestatic 184, 3) := by decide +kernel
theorem dX13_isToken_11 : decode cX13_isToken 11 = .ok (.ifCond .ne 10, 3) := by decide +kernel
theorem dX13_isToken_14 : decode cX13_isToken 14 = .ok (.iload_n 0, 1) := by decide +kernel
theorem dX13_isToken_15 : decode cX13_isToken 15 = .ok (.invokestatic 187, 3) := by decide +kernel
theorem dX13_isToken_18 : decode cX13_isToken 18 = .ok (.ifCond .eq 7, 3) := by decide +kernel
theorem dX13_isToken_21 : decode cX13_isToken 21 = .ok (.iconst 1, 1) := by decide +kernel
theorem dX13_isToken_22 : decode cX13_isToken 22 = .ok (.goto 4, 3) := by decide +kernel
theorem dX13_isToken_25 : decode cX13_isToken 25 = .ok (.iconst 0, 1) := by decide +kernel
theorem dX13_isToken_26 : decode cX13_isToken 26 = .ok (.ireturn, 1) := by decide +kernel
theorem dX13_small_0 : decode cX13_small 0 = .ok (.iload_n 0, 1) := by decide +kernel
theorem dX13_small_1 : decode cX13_small 1 = .ok (.invokestatic 187, 3) := by decide +kernel
theorem dX13_small_4 : decode cX13_small 4 = .ok (.ifCond .eq 10, 3) := by decide +kernel
theorem dX13_small_7 : decode cX13_small 7 = .ok (.iload_n 0, 1) := by decide +kernel
theorem dX13_small_8 : decode cX13_small 8 = .ok (.bipush 32, 2) := by decide +kernel
theorem dX13_small_10 : decode cX13_small 10 = .ok (.iadd, 1) := by decide +kernel
theorem dX13_small_11 : decode cX13_small 11 = .ok (.goto 4, 3) := by decide +kernel
theorem dX13_small_14 : decode cX13_small 14 = .ok (.iload_n 0, 1) := by decide +kernel
theorem dX13_small_15 : decode cX13_small 15 = .ok (.ireturn, 1) := by decide +kernel
theorem dX13_runEnd_0 : decode cX13_runEnd 0 = .ok (.iload_n 1, 1) := by decide +kernel
theorem dX13_runEnd_1 : decode cX13_runEnd 1 = .ok (.istore_n 3, 1) := by decide +kernel
theorem dX13_runEnd_2 : decode cX13_runEnd 2 = .ok (.iload_n 3, 1) := by decide +kernel
theorem dX13_runEnd_3 : decode cX13_runEnd 3 = .ok (.iload_n 2, 1) := by decide +kernel
theorem dX13_runEnd_4 : decode cX13_runEnd 4 = .ok (.if_icmp .ge 21, 3) := by decide +kernel
theorem dX13_runEnd_7 : decode cX13_runEnd 7 = .ok (.aload_n 0, 1) := by decide +kernel
theorem dX13_runEnd_8 : decode cX13_runEnd 8 = .ok (.getfield 9, 3) := by decide +kernel
theorem dX13_runEnd_11 : decode cX13_runEnd 11 = .ok (.iload_n 3, 1) := by decide +kernel
theorem dX13_runEnd_12 : decode cX13_runEnd 12 = .ok (.baload, 1) := by decide +kernel
theorem dX13_runEnd_13 : decode cX13_runEnd 13 = .ok (.invokestatic 190, 3) := by decide +kernel
theorem dX13_runEnd_16 : decode cX13_runEnd 16 = .ok (.ifCond .eq 9, 3) := by decide +kernel
theorem dX13_runEnd_19 : decode cX13_runEnd 19 = .ok (.iinc 3 1, 3) := by decide +kernel
theorem dX13_runEnd_22 : decode cX13_runEnd 22 = .ok (.goto (-20), 3) := by decide +kernel
theorem dX13_runEnd_25 : decode cX13_runEnd 25 = .ok (.iload_n 3, 1) := by decide +kernel
theorem dX13_runEnd_26 : decode cX13_runEnd 26 = .ok (.ireturn, 1) := by decide +kernel
theorem dX13_runFrom_0 : decode cX13_runFrom 0 = .ok (.iload_n 1, 1) := by decide +kernel
theorem dX13_runFrom_1 : decode cX13_runFrom 1 = .ok (.istore_n 3, 1) := by decide +kernel
theorem dX13_runFrom_2 : decode cX13_runFrom 2 = .ok (.iload_n 3, 1) := by decide +kernel
theorem dX13_runFrom_3 : decode cX13_runFrom 3 = .ok (.iload_n 2, 1) := by decide +kernel
theorem dX13_runFrom_4 : decode cX13_runFrom 4 = .ok (.if_icmp .ge 21, 3) := by decide +kernel
theorem dX13_runFrom_7 : decode cX13_runFrom 7 = .ok (.aload_n 0, 1) := by decide +kernel
theorem dX13_runFrom_8 : decode cX13_runFrom 8 = .ok (.getfield 9, 3) := by decide +kernel
theorem dX13_runFrom_11 : decode cX13_runFrom 11 = .ok (.iload_n 3, 1) := by decide +kernel
theorem dX13_runFrom_12 : decode cX13_runFrom 12 = .ok (.baload, 1) := by decide +kernel
theorem dX13_runFrom_13 : decode cX13_runFrom 13 = .ok (.invokestatic 190, 3) := by decide +kernel
theorem dX13_runFrom_16 : decode cX13_runFrom 16 = .ok (.ifCond .ne 9, 3) := by decide +kernel
theorem dX13_runFrom_19 : decode cX13_runFrom 19 = .ok (.iinc 3 1, 3) := by decide +kernel
theorem dX13_runFrom_22 : decode cX13_runFrom 22 = .ok (.goto (-20), 3) := by decide +kernel
theorem dX13_runFrom_25 : decode cX13_runFrom 25 = .ok (.iload_n 3, 1) := by decide +kernel
theorem dX13_runFrom_26 : decode cX13_runFrom 26 = .ok (.ireturn, 1) := by decide +kernel
theorem dX13_endsBy_0 : decode cX13_endsBy 0 = .ok (.aload_n 0, 1) := by decide +kernel
theorem dX13_endsBy_1 : decode cX13_endsBy 1 = .ok (.getfield 193, 3) := by decide +kernel
theorem dX13_endsBy_4 : decode cX13_endsBy 4 = .ok (.iload 4, 2) := by decide +kernel
theorem dX13_endsBy_6 : decode cX13_endsBy 6 = .ok (.if_icmp .ge 5, 3) := by decide +kernel
theorem dX13_endsBy_9 : decode cX13_endsBy 9 = .ok (.iconst 0, 1) := by decide +kernel
theorem dX13_endsBy_10 : decode cX13_endsBy 10 = .ok (.ireturn, 1) := by decide +kernel
theorem dX13_endsBy_11 : decode cX13_endsBy 11 = .ok (.aload_n 0, 1) := by decide +kernel
theorem dX13_endsBy_12 : decode cX13_endsBy 12 = .ok (.getfield 60, 3) := by decide +kernel
theorem dX13_endsBy_15 : decode cX13_endsBy 15 = .ok (.aload_n 0, 1) := by decide +kernel
theorem dX13_endsBy_16 : decode cX13_endsBy 16 = .ok (.getfield 193, 3) := by decide +kernel
theorem dX13_endsBy_19 : decode cX13_endsBy 19 = .ok (.iconst 1, 1) := by decide +kernel
theorem dX13_endsBy_20 : decode cX13_endsBy 20 = .ok (.isub, 1) := by decide +kernel
theorem dX13_endsBy_21 : decode cX13_endsBy 21 = .ok (.baload, 1) := by decide +kernel
theorem dX13_endsBy_22 : decode cX13_endsBy 22 = .ok (.iload_n 3, 1) := by decide +kernel
theorem dX13_endsBy_23 : decode cX13_endsBy 23 = .ok (.if_icmp .ne 45, 3) := by decide +kernel
theorem dX13_endsBy_26 : decode cX13_endsBy 26 = .ok (.iload_n 2, 1) := by decide +kernel
theorem dX13_endsBy_27 : decode cX13_endsBy 27 = .ok (.ifCond .eq 18, 3) := by decide +kernel
theorem dX13_endsBy_30 : decode cX13_endsBy 30 = .ok (.aload_n 0, 1) := by decide +kernel
theorem dX13_endsBy_31 : decode cX13_endsBy 31 = .ok (.getfield 60, 3) := by decide +kernel
theorem dX13_endsBy_34 : decode cX13_endsBy 34 = .ok (.aload_n 0, 1) := by decide +kernel
theorem dX13_endsBy_35 : decode cX13_endsBy 35 = .ok (.getfield 193, 3) := by decide +kernel
theorem dX13_endsBy_38 : decode cX13_endsBy 38 = .ok (.iconst 2, 1) := by decide +kernel
theorem dX13_endsBy_39 : decode cX13_endsBy 39 = .ok (.isub, 1) := by decide +kernel
theorem dX13_endsBy_40 : decode cX13_endsBy 40 = .ok (.baload, 1) := by decide +kernel
theorem dX13_endsBy_41 : decode cX13_endsBy 41 = .ok (.iload_n 2, 1) := by decide +kernel
theorem dX13_endsBy_42 : decode cX13_endsBy 42 = .ok (.if_icmp .ne 26, 3) := by decide +kernel
theorem dX13_endsBy_45 : decode cX13_endsBy 45 = .ok (.iload_n 1, 1) := by decide +kernel
theorem dX13_endsBy_46 : decode cX13_endsBy 46 = .ok (.ifCond .eq 18, 3) := by decide +kernel
theorem dX13_endsBy_49 : decode cX13_endsBy 49 = .ok (.aload_n 0, 1) := by decide +kernel
theorem dX13_endsBy_50 : decode cX13_endsBy 50 = .ok (.getfield 60, 3) := by decide +kernel
theorem dX13_endsBy_53 : decode cX13_endsBy 53 = .ok (.aload_n 0, 1) := by decide +kernel
theorem dX13_endsBy_54 : decode cX13_endsBy 54 = .ok (.getfield 193, 3) := by decide +kernel
theorem dX13_endsBy_57 : decode cX13_endsBy 57 = .ok (.iconst 3, 1) := by decide +kernel
theorem dX13_endsBy_58 : decode cX13_endsBy 58 = .ok (.isub, 1) := by decide +kernel
theorem dX13_endsBy_59 : decode cX13_endsBy 59 = .ok (.baload, 1) := by decide +kernel
theorem dX13_endsBy_60 : decode cX13_endsBy 60 = .ok (.iload_n 1, 1) := by decide +kernel
theorem dX13_endsBy_61 : decode cX13_endsBy 61 = .ok (.if_icmp .ne 7, 3) := by decide +kernel
theorem dX13_endsBy_64 : decode cX13_endsBy 64 = .ok (.iconst 1, 1) := by decide +kernel
theorem dX13_endsBy_65 : decode cX13_endsBy 65 = .ok (.goto 4, 3) := by decide +kernel
theorem dX13_endsBy_68 : decode cX13_endsBy 68 = .ok (.iconst 0, 1) := by decide +kernel
theorem dX13_endsBy_69 : decode cX13_endsBy 69 = .ok (.ireturn, 1) := by decide +kernel
theorem dX13_takeBytes_0 : decode cX13_takeBytes 0 = .ok (.aload_n 0, 1) := by decide +kernel
theorem dX13_takeBytes_1 : decode cX13_takeBytes 1 = .ok (.iconst 0, 1) := by decide +kernel
theorem dX13_takeBytes_2 : decode cX13_takeBytes 2 = .ok (.putfield 193, 3) := by decide +kernel
theorem dX13_takeBytes_5 : decode cX13_takeBytes 5 = .ok (.iload_n 1, 1) := by decide +kernel
theorem dX13_takeBytes_6 : decode cX13_takeBytes 6 = .ok (.istore_n 3, 1) := by decide +kernel
theorem dX13_takeBytes_7 : decode cX13_takeBytes 7 = .ok (.iload_n 3, 1) := by decide +kernel
theorem dX13_takeBytes_8 : decode cX13_takeBytes 8 = .ok (.iload_n 2, 1) := by decide +kernel
theorem dX13_takeBytes_9 : decode cX13_takeBytes 9 = .ok (.if_icmp .ge 47, 3) := by decide +kernel
theorem dX13_takeBytes_12 : decode cX13_takeBytes 12 = .ok (.aload_n 0, 1) := by decide +kernel
theorem dX13_takeBytes_13 : decode cX13_takeBytes 13 = .ok (.getfield 193, 3) := by decide +kernel
theorem dX13_takeBytes_16 : decode cX13_takeBytes 16 = .ok (.bipush 12, 2) := by decide +kernel
theorem dX13_takeBytes_18 : decode cX13_takeBytes 18 = .ok (.if_icmp .ge 38, 3) := by decide +kernel
theorem dX13_takeBytes_21 : decode cX13_takeBytes 21 = .ok (.aload_n 0, 1) := by decide +kernel
theorem dX13_takeBytes_22 : decode cX13_takeBytes 22 = .ok (.getfield 60, 3) := by decide +kernel
theorem dX13_takeBytes_25 : decode cX13_takeBytes 25 = .ok (.aload_n 0, 1) := by decide +kernel
theorem dX13_takeBytes_26 : decode cX13_takeBytes 26 = .ok (.getfield 193, 3) := by decide +kernel
theorem dX13_takeBytes_29 : decode cX13_takeBytes 29 = .ok (.aload_n 0, 1) := by decide +kernel
theorem dX13_takeBytes_30 : decode cX13_takeBytes 30 = .ok (.getfield 9, 3) := by decide +kernel
theorem dX13_takeBytes_33 : decode cX13_takeBytes 33 = .ok (.iload_n 3, 1) := by decide +kernel
theorem dX13_takeBytes_34 : decode cX13_takeBytes 34 = .ok (.baload, 1) := by decide +kernel
theorem dX13_takeBytes_35 : decode cX13_takeBytes 35 = .ok (.invokestatic 196, 3) := by decide +kernel
theorem dX13_takeBytes_38 : decode cX13_takeBytes 38 = .ok (.i2b, 1) := by decide +kernel
theorem dX13_takeBytes_39 : decode cX13_takeBytes 39 = .ok (.bastore, 1) := by decide +kernel
theorem dX13_takeBytes_40 : decode cX13_takeBytes 40 = .ok (.aload_n 0, 1) := by decide +kernel
theorem dX13_takeBytes_41 : decode cX13_takeBytes 41 = .ok (.dup, 1) := by decide +kernel
theorem dX13_takeBytes_42 : decode cX13_takeBytes 42 = .ok (.getfield 193, 3) := by decide +kernel
theorem dX13_takeBytes_45 : decode cX13_takeBytes 45 = .ok (.iconst 1, 1) := by decide +kernel
theorem dX13_takeBytes_46 : decode cX13_takeBytes 46 = .ok (.iadd, 1) := by decide +kernel
theorem dX13_takeBytes_47 : decode cX13_takeBytes 47 = .ok (.putfield 193, 3) := by decide +kernel
theorem dX13_takeBytes_50 : decode cX13_takeBytes 50 = .ok (.iinc 3 1, 3) := by decide +kernel
theorem dX13_takeBytes_53 : decode cX13_takeBytes 53 = .ok (.goto (-46), 3) := by decide +kernel
theorem dX13_takeBytes_56 : decode cX13_takeBytes 56 = .ok (.return_, 1) := by decide +kernel
theorem dX13_takeWord_0 : decode cX13_takeWord 0 = .ok (.aload_n 0, 1) := by decide +kernel
theorem dX13_takeWord_1 : decode cX13_takeWord 1 = .ok (.iload_n 1, 1) := by decide +kernel
theorem dX13_takeWord_2 : decode cX13_takeWord 2 = .ok (.iload_n 2, 1) := by decide +kernel
theorem dX13_takeWord_3 : decode cX13_takeWord 3 = .ok (.invokevirtual 200, 3) := by decide +kernel
theorem dX13_takeWord_6 : decode cX13_takeWord 6 = .ok (.iconst 0, 1) := by decide +kernel
theorem dX13_takeWord_7 : decode cX13_takeWord 7 = .ok (.istore_n 3, 1) := by decide +kernel
theorem dX13_takeWord_8 : decode cX13_takeWord 8 = .ok (.iload_n 3, 1) := by decide +kernel
theorem dX13_takeWord_9 : decode cX13_takeWord 9 = .ok (.aload_n 0, 1) := by decide +kernel
theorem dX13_takeWord_10 : decode cX13_takeWord 10 = .ok (.getfield 193, 3) := by decide +kernel
theorem dX13_takeWord_13 : decode cX13_takeWord 13 = .ok (.if_icmp .ge 22, 3) := by decide +kernel
theorem dX13_takeWord_16 : decode cX13_takeWord 16 = .ok (.aload_n 0, 1) := by decide +kernel
theorem dX13_takeWord_17 : decode cX13_takeWord 17 = .ok (.getfield 60, 3) := by decide +kernel
theorem dX13_takeWord_20 : decode cX13_takeWord 20 = .ok (.iload_n 3, 1) := by decide +kernel
theorem dX13_takeWord_21 : decode cX13_takeWord 21 = .ok (.baload, 1) := by decide +kernel
theorem dX13_takeWord_22 : decode cX13_takeWord 22 = .ok (.invokestatic 180, 3) := by decide +kernel
theorem dX13_takeWord_25 : decode cX13_takeWord 25 = .ok (.ifCond .eq 4, 3) := by decide +kernel
theorem dX13_takeWord_28 : decode cX13_takeWord 28 = .ok (.return_, 1) := by decide +kernel
theorem dX13_takeWord_29 : decode cX13_takeWord 29 = .ok (.iinc 3 1, 3) := by decide +kernel
theorem dX13_takeWord_32 : decode cX13_takeWord 32 = .ok (.goto (-24), 3) := by decide +kernel
theorem dX13_takeWord_35 : decode cX13_takeWord 35 = .ok (.aload_n 0, 1) := by decide +kernel
theorem dX13_takeWord_36 : decode cX13_takeWord 36 = .ok (.bipush 105, 2) := by decide +kernel
theorem dX13_takeWord_38 : decode cX13_takeWord 38 = .ok (.bipush 101, 2) := by decide +kernel
theorem dX13_takeWord_40 : decode cX13_takeWord 40 = .ok (.bipush 115, 2) := by decide +kernel
theorem dX13_takeWord_42 : decode cX13_takeWord 42 = .ok (.iconst 5, 1) := by decide +kernel
theorem dX13_takeWord_43 : decode cX13_takeWord 43 = .ok (.invokevirtual 204, 3) := by decide +kernel
theorem dX13_takeWord_46 : decode cX13_takeWord 46 = .ok (.ifCond .eq 29, 3) := by decide +kernel
theorem dX13_takeWord_49 : decode cX13_takeWord 49 = .ok (.aload_n 0, 1) := by decide +kernel
theorem dX13_takeWord_50 : decode cX13_takeWord 50 = .ok (.dup, 1) := by decide +kernel
theorem dX13_takeWord_51 : decode cX13_takeWord 51 = .ok (.getfield 193, 3) := by decide +kernel
theorem dX13_takeWord_54 : decode cX13_takeWord 54 = .ok (.iconst 2, 1) := by decide +kernel
theorem dX13_takeWord_55 : decode cX13_takeWord 55 = .ok (.isub, 1) := by decide +kernel
theorem dX13_takeWord_56 : decode cX13_takeWord 56 = .ok (.putfield 193, 3) := by decide +kernel
theorem dX13_takeWord_59 : decode cX13_takeWord 59 = .ok (.aload_n 0, 1) := by decide +kernel
theorem dX13_takeWord_60 : decode cX13_takeWord 60 = .ok (.getfield 60, 3) := by decide +kernel
theorem dX13_takeWord_63 : decode cX13_takeWord 63 = .ok (.aload_n 0, 1) := by decide +kernel
theorem dX13_takeWord_64 : decode cX13_takeWord 64 = .ok (.getfield 193, 3) := by decide +kernel
theorem dX13_takeWord_67 : decode cX13_takeWord 67 = .ok (.iconst 1, 1) := by decide +kernel
theorem dX13_takeWord_68 : decode cX13_takeWord 68 = .ok (.isub, 1) := by decide +kernel
theorem dX13_takeWord_69 : decode cX13_takeWord 69 = .ok (.bipush 121, 2) := by decide +kernel
theorem dX13_takeWord_71 : decode cX13_takeWord 71 = .ok (.bastore, 1) := by decide +kernel
theorem dX13_takeWord_72 : decode cX13_takeWord 72 = .ok (.goto 118, 3) := by decide +kernel
theorem dX13_takeWord_75 : decode cX13_takeWord 75 = .ok (.aload_n 0, 1) := by decide +kernel
theorem dX13_takeWord_76 : decode cX13_takeWord 76 = .ok (.bipush 105, 2) := by decide +kernel
theorem dX13_takeWord_78 : decode cX13_takeWord 78 = .ok (.bipush 110, 2) := by decide +kernel
theorem dX13_takeWord_80 : decode cX13_takeWord 80 = .ok (.bipush 103, 2) := by decide +kernel
theorem dX13_takeWord_82 : decode cX13_takeWord 82 = .ok (.bipush 6, 2) := by decide +kernel
theorem dX13_takeWord_84 : decode cX13_takeWord 84 = .ok (.invokevirtual 204, 3) := by decide +kernel
theorem dX13_takeWord_87 : decode cX13_takeWord 87 = .ok (.ifCond .eq 16, 3) := by decide +kernel
theorem dX13_takeWord_90 : decode cX13_takeWord 90 = .ok (.aload_n 0, 1) := by decide +kernel
theorem dX13_takeWord_91 : decode cX13_takeWord 91 = .ok (.dup, 1) := by decide +kernel
theorem dX13_takeWord_92 : decode cX13_takeWord 92 = .ok (.getfield 193, 3) := by decide +kernel
theorem dX13_takeWord_95 : decode cX13_takeWord 95 = .ok (.iconst 3, 1) := by decide +kernel
theorem dX13_takeWord_96 : decode cX13_takeWord 96 = .ok (.isub, 1) := by decide +kernel
theorem dX13_takeWord_97 : decode cX13_takeWord 97 = .ok (.putfield 193, 3) := by decide +kernel
theorem dX13_takeWord_100 : decode cX13_takeWord 100 = .ok (.goto 90, 3) := by decide +kernel
theorem dX13_takeWord_103 : decode cX13_takeWord 103 = .ok (.aload_n 0, 1) := by decide +kernel
theorem dX13_takeWord_104 : decode cX13_takeWord 104 = .ok (.iconst 0, 1) := by decide +kernel
theorem dX13_takeWord_105 : decode cX13_takeWord 105 = .ok (.bipush 101, 2) := by decide +kernel
theorem dX13_takeWord_107 : decode cX13_takeWord 107 = .ok (.bipush 100, 2) := by decide +kernel
theorem dX13_takeWord_109 : decode cX13_takeWord 109 = .ok (.iconst 5, 1) := by decide +kernel
theorem dX13_takeWord_110 : decode cX13_takeWord 110 = .ok (.invokevirtual 204, 3) := by decide +kernel
theorem dX13_takeWord_113 : decode cX13_takeWord 113 = .ok (.ifCond .eq 16, 3) := by decide +kernel
theorem dX13_takeWord_116 : decode cX13_takeWord 116 = .ok (.aload_n 0, 1) := by decide +kernel
theorem dX13_takeWord_117 : decode cX13_takeWord 117 = .ok (.dup, 1) := by decide +kernel
theorem dX13_takeWord_118 : decode cX13_takeWord 118 = .ok (.getfield 193, 3) := by decide +kernel
theorem dX13_takeWord_121 : decode cX13_takeWord 121 = .ok (.iconst 2, 1) := by decide +kernel
theorem dX13_takeWord_122 : decode cX13_takeWord 122 = .ok (.isub, 1) := by decide +kernel
theorem dX13_takeWord_123 : decode cX13_takeWord 123 = .ok (.putfield 193, 3) := by decide +kernel
theorem dX13_takeWord_126 : decode cX13_takeWord 126 = .ok (.goto 64, 3) := by decide +kernel
theorem dX13_takeWord_129 : decode cX13_takeWord 129 = .ok (.aload_n 0, 1) := by decide +kernel
theorem dX13_takeWord_130 : decode cX13_takeWord 130 = .ok (.iconst 0, 1) := by decide +kernel
theorem dX13_takeWord_131 : decode cX13_takeWord 131 = .ok (.iconst 0, 1) := by decide +kernel
theorem dX13_takeWord_132 : decode cX13_takeWord 132 = .ok (.bipush 115, 2) := by decide +kernel
theorem dX13_takeWord_134 : decode cX13_takeWord 134 = .ok (.iconst 4, 1) := by decide +kernel
theorem dX13_takeWord_135 : decode cX13_takeWord 135 = .ok (.invokevirtual 204, 3) := by decide +kernel
theorem dX13_takeWord_138 : decode cX13_takeWord 138 = .ok (.ifCond .eq 52, 3) := by decide +kernel
theorem dX13_takeWord_141 : decode cX13_takeWord 141 = .ok (.aload_n 0, 1) := by decide +kernel
theorem dX13_takeWord_142 : decode cX13_takeWord 142 = .ok (.iconst 0, 1) := by decide +kernel
theorem dX13_takeWord_143 : decode cX13_takeWord 143 = .ok (.bipush 115, 2) := by decide +kernel
theorem dX13_takeWord_145 : decode cX13_takeWord 145 = .ok (.bipush 115, 2) := by decide +kernel
theorem dX13_takeWord_147 : decode cX13_takeWord 147 = .ok (.iconst 4, 1) := by decide +kernel
theorem dX13_takeWord_148 : decode cX13_takeWord 148 = .ok (.invokevirtual 204, 3) := by decide +kernel
theorem dX13_takeWord_151 : decode cX13_takeWord 151 = .ok (.ifCond .ne 39, 3) := by decide +kernel
theorem dX13_takeWord_154 : decode cX13_takeWord 154 = .ok (.aload_n 0, 1) := by decide +kernel
theorem dX13_takeWord_155 : decode cX13_takeWord 155 = .ok (.iconst 0, 1) := by decide +kernel
theorem dX13_takeWord_156 : decode cX13_takeWord 156 = .ok (.bipush 117, 2) := by decide +kernel
theorem dX13_takeWord_158 : decode cX13_takeWord 158 = .ok (.bipush 115, 2) := by decide +kernel
theorem dX13_takeWord_160 : decode cX13_takeWord 160 = .ok (.iconst 4, 1) := by decide +kernel
theorem dX13_takeWord_161 : decode cX13_takeWord 161 = .ok (.invokevirtual 204, 3) := by decide +kernel
theorem dX13_takeWord_164 : decode cX13_takeWord 164 = .ok (.ifCond .ne 26, 3) := by decide +kernel
