theorem dX8_reaches_31 : decode cX8_reaches 31 = .ok (.iload_n 1, 1) := by decide +kernel
theorem dX8_reaches_32 : decode cX8_reaches 32 = .ok (.if_icmp .ne 7, 3) := by decide +kernel
theorem dX8_reaches_35 : decode cX8_reaches 35 = .ok (.iconst 1, 1) := by decide +kernel
theorem dX8_reaches_36 : decode cX8_reaches 36 = .ok (.goto 4, 3) := by decide +kernel
theorem dX8_reaches_39 : decode cX8_reaches 39 = .ok (.iconst 0, 1) := by decide +kernel
theorem dX8_reaches_40 : decode cX8_reaches 40 = .ok (.ireturn, 1) := by decide +kernel
theorem dX8_number_0 : decode cX8_number 0 = .ok (.aload_n 0, 1) := by decide +kernel
theorem dX8_number_1 : decode cX8_number 1 = .ok (.getfield 24, 3) := by decide +kernel
theorem dX8_number_4 : decode cX8_number 4 = .ok (.ireturn, 1) := by decide +kernel
theorem dX8_places_0 : decode cX8_places 0 = .ok (.aload_n 0, 1) := by decide +kernel
theorem dX8_places_1 : decode cX8_places 1 = .ok (.getfield 27, 3) := by decide +kernel
theorem dX8_places_4 : decode cX8_places 4 = .ok (.ireturn, 1) := by decide +kernel
theorem dX8_nextPlace_0 : decode cX8_nextPlace 0 = .ok (.aload_n 0, 1) := by decide +kernel
theorem dX8_nextPlace_1 : decode cX8_nextPlace 1 = .ok (.getfield 30, 3) := by decide +kernel
theorem dX8_nextPlace_4 : decode cX8_nextPlace 4 = .ok (.ifCond .le 26, 3) := by decide +kernel
theorem dX8_nextPlace_7 : decode cX8_nextPlace 7 = .ok (.aload_n 0, 1) := by decide +kernel
theorem dX8_nextPlace_8 : decode cX8_nextPlace 8 = .ok (.dup, 1) := by decide +kernel
theorem dX8_nextPlace_9 : decode cX8_nextPlace 9 = .ok (.getfield 30, 3) := by decide +kernel
theorem dX8_nextPlace_12 : decode cX8_nextPlace 12 = .ok (.iconst 1, 1) := by decide +kernel
theorem dX8_nextPlace_13 : decode cX8_nextPlace 13 = .ok (.isub, 1) := by decide +kernel
theorem dX8_nextPlace_14 : decode cX8_nextPlace 14 = .ok (.putfield 30, 3) := by decide +kernel
theorem dX8_nextPlace_17 : decode cX8_nextPlace 17 = .ok (.aload_n 0, 1) := by decide +kernel
theorem dX8_nextPlace_18 : decode cX8_nextPlace 18 = .ok (.dup, 1) := by decide +kernel
theorem dX8_nextPlace_19 : decode cX8_nextPlace 19 = .ok (.getfield 33, 3) := by decide +kernel
theorem dX8_nextPlace_22 : decode cX8_nextPlace 22 = .ok (.aload_n 0, 1) := by decide +kernel
theorem dX8_nextPlace_23 : decode cX8_nextPlace 23 = .ok (.invokevirtual 49, 3) := by decide +kernel
theorem dX8_nextPlace_26 : decode cX8_nextPlace 26 = .ok (.iadd, 1) := by decide +kernel
theorem dX8_nextPlace_27 : decode cX8_nextPlace 27 = .ok (.putfield 33, 3) := by decide +kernel
theorem dX8_nextPlace_30 : decode cX8_nextPlace 30 = .ok (.aload_n 0, 1) := by decide +kernel
theorem dX8_nextPlace_31 : decode cX8_nextPlace 31 = .ok (.getfield 33, 3) := by decide +kernel
theorem dX8_nextPlace_34 : decode cX8_nextPlace 34 = .ok (.ireturn, 1) := by decide +kernel
theorem dX8_tallyDocuments_0 : decode cX8_tallyDocuments 0 = .ok (.iconst 0, 1) := by decide +kernel
theorem dX8_tallyDocuments_1 : decode cX8_tallyDocuments 1 = .ok (.istore_n 2, 1) := by decide +kernel
theorem dX8_tallyDocuments_2 : decode cX8_tallyDocuments 2 = .ok (.iconst 0, 1) := by decide +kernel
theorem dX8_tallyDocuments_3 : decode cX8_tallyDocuments 3 = .ok (.istore_n 3, 1) := by decide +kernel
theorem dX8_tallyDocuments_4 : decode cX8_tallyDocuments 4 = .ok (.iload_n 3, 1) := by decide +kernel
theorem dX8_tallyDocuments_5 : decode cX8_tallyDocuments 5 = .ok (.bipush 120, 2) := by decide +kernel
theorem dX8_tallyDocuments_7 : decode cX8_tallyDocuments 7 = .ok (.if_icmp .ge 30, 3) := by decide +kernel
theorem dX8_tallyDocuments_10 : decode cX8_tallyDocuments 10 = .ok (.aload_n 0, 1) := by decide +kernel
theorem dX8_tallyDocuments_11 : decode cX8_tallyDocuments 11 = .ok (.invokevirtual 53, 3) := by decide +kernel
theorem dX8_tallyDocuments_14 : decode cX8_tallyDocuments 14 = .ok (.ifCond .eq 23, 3) := by decide +kernel
theorem dX8_tallyDocuments_17 : decode cX8_tallyDocuments 17 = .ok (.aload_n 1, 1) := by decide +kernel
theorem dX8_tallyDocuments_18 : decode cX8_tallyDocuments 18 = .ok (.aload_n 0, 1) := by decide +kernel
theorem dX8_tallyDocuments_19 : decode cX8_tallyDocuments 19 = .ok (.getfield 24, 3) := by decide +kernel
theorem dX8_tallyDocuments_22 : decode cX8_tallyDocuments 22 = .ok (.invokevirtual 57, 3) := by decide +kernel
theorem dX8_tallyDocuments_25 : decode cX8_tallyDocuments 25 = .ok (.ifCond .eq 6, 3) := by decide +kernel
theorem dX8_tallyDocuments_28 : decode cX8_tallyDocuments 28 = .ok (.iinc 2 1, 3) := by decide +kernel
theorem dX8_tallyDocuments_31 : decode cX8_tallyDocuments 31 = .ok (.iinc 3 1, 3) := by decide +kernel
theorem dX8_tallyDocuments_34 : decode cX8_tallyDocuments 34 = .ok (.goto (-30), 3) := by decide +kernel
theorem dX8_tallyDocuments_37 : decode cX8_tallyDocuments 37 = .ok (.iload_n 2, 1) := by decide +kernel
theorem dX8_tallyDocuments_38 : decode cX8_tallyDocuments 38 = .ok (.ireturn, 1) := by decide +kernel
theorem dX8_tallyPlaces_0 : decode cX8_tallyPlaces 0 = .ok (.iconst 0, 1) := by decide +kernel
theorem dX8_tallyPlaces_1 : decode cX8_tallyPlaces 1 = .ok (.istore_n 2, 1) := by decide +kernel
theorem dX8_tallyPlaces_2 : decode cX8_tallyPlaces 2 = .ok (.iconst 0, 1) := by decide +kernel
theorem dX8_tallyPlaces_3 : decode cX8_tallyPlaces 3 = .ok (.istore_n 3, 1) := by decide +kernel
theorem dX8_tallyPlaces_4 : decode cX8_tallyPlaces 4 = .ok (.iload_n 3, 1) := by decide +kernel
theorem dX8_tallyPlaces_5 : decode cX8_tallyPlaces 5 = .ok (.bipush 120, 2) := by decide +kernel
theorem dX8_tallyPlaces_7 : decode cX8_tallyPlaces 7 = .ok (.if_icmp .ge 34, 3) := by decide +kernel
theorem dX8_tallyPlaces_10 : decode cX8_tallyPlaces 10 = .ok (.aload_n 0, 1) := by decide +kernel
theorem dX8_tallyPlaces_11 : decode cX8_tallyPlaces 11 = .ok (.invokevirtual 53, 3) := by decide +kernel
theorem dX8_tallyPlaces_14 : decode cX8_tallyPlaces 14 = .ok (.ifCond .eq 27, 3) := by decide +kernel
theorem dX8_tallyPlaces_17 : decode cX8_tallyPlaces 17 = .ok (.aload_n 1, 1) := by decide +kernel
theorem dX8_tallyPlaces_18 : decode cX8_tallyPlaces 18 = .ok (.aload_n 0, 1) := by decide +kernel
theorem dX8_tallyPlaces_19 : decode cX8_tallyPlaces 19 = .ok (.getfield 24, 3) := by decide +kernel
theorem dX8_tallyPlaces_22 : decode cX8_tallyPlaces 22 = .ok (.invokevirtual 57, 3) := by decide +kernel
theorem dX8_tallyPlaces_25 : decode cX8_tallyPlaces 25 = .ok (.ifCond .eq 10, 3) := by decide +kernel
theorem dX8_tallyPlaces_28 : decode cX8_tallyPlaces 28 = .ok (.iload_n 2, 1) := by decide +kernel
theorem dX8_tallyPlaces_29 : decode cX8_tallyPlaces 29 = .ok (.aload_n 0, 1) := by decide +kernel
theorem dX8_tallyPlaces_30 : decode cX8_tallyPlaces 30 = .ok (.getfield 27, 3) := by decide +kernel
theorem dX8_tallyPlaces_33 : decode cX8_tallyPlaces 33 = .ok (.iadd, 1) := by decide +kernel
theorem dX8_tallyPlaces_34 : decode cX8_tallyPlaces 34 = .ok (.istore_n 2, 1) := by decide +kernel
theorem dX8_tallyPlaces_35 : decode cX8_tallyPlaces 35 = .ok (.iinc 3 1, 3) := by decide +kernel
theorem dX8_tallyPlaces_38 : decode cX8_tallyPlaces 38 = .ok (.goto (-34), 3) := by decide +kernel
theorem dX8_tallyPlaces_41 : decode cX8_tallyPlaces 41 = .ok (.iload_n 2, 1) := by decide +kernel
theorem dX8_tallyPlaces_42 : decode cX8_tallyPlaces 42 = .ok (.ireturn, 1) := by decide +kernel
theorem dX8_gamma_0 : decode cX8_gamma 0 = .ok (.iconst 0, 1) := by decide +kernel
theorem dX8_gamma_1 : decode cX8_gamma 1 = .ok (.istore_n 1, 1) := by decide +kernel
theorem dX8_gamma_2 : decode cX8_gamma 2 = .ok (.iload_n 1, 1) := by decide +kernel
theorem dX8_gamma_3 : decode cX8_gamma 3 = .ok (.bipush 31, 2) := by decide +kernel
theorem dX8_gamma_5 : decode cX8_gamma 5 = .ok (.if_icmp .ge 23, 3) := by decide +kernel
theorem dX8_gamma_8 : decode cX8_gamma 8 = .ok (.aload_n 0, 1) := by decide +kernel
theorem dX8_gamma_9 : decode cX8_gamma 9 = .ok (.getfield 9, 3) := by decide +kernel
theorem dX8_gamma_12 : decode cX8_gamma 12 = .ok (.ifCond .le 16, 3) := by decide +kernel
theorem dX8_gamma_15 : decode cX8_gamma 15 = .ok (.aload_n 0, 1) := by decide +kernel
theorem dX8_gamma_16 : decode cX8_gamma 16 = .ok (.invokevirtual 63, 3) := by decide +kernel
theorem dX8_gamma_19 : decode cX8_gamma 19 = .ok (.ifCond .ne 9, 3) := by decide +kernel
theorem dX8_gamma_22 : decode cX8_gamma 22 = .ok (.iinc 1 1, 3) := by decide +kernel
theorem dX8_gamma_25 : decode cX8_gamma 25 = .ok (.goto (-23), 3) := by decide +kernel
theorem dX8_gamma_28 : decode cX8_gamma 28 = .ok (.iconst 1, 1) := by decide +kernel
theorem dX8_gamma_29 : decode cX8_gamma 29 = .ok (.istore_n 2, 1) := by decide +kernel
theorem dX8_gamma_30 : decode cX8_gamma 30 = .ok (.iconst 0, 1) := by decide +kernel
theorem dX8_gamma_31 : decode cX8_gamma 31 = .ok (.istore_n 3, 1) := by decide +kernel
theorem dX8_gamma_32 : decode cX8_gamma 32 = .ok (.iload_n 3, 1) := by decide +kernel
theorem dX8_gamma_33 : decode cX8_gamma 33 = .ok (.iload_n 1, 1) := by decide +kernel
theorem dX8_gamma_34 : decode cX8_gamma 34 = .ok (.if_icmp .ge 18, 3) := by decide +kernel
theorem dX8_gamma_37 : decode cX8_gamma 37 = .ok (.iload_n 2, 1) := by decide +kernel
theorem dX8_gamma_38 : decode cX8_gamma 38 = .ok (.iconst 1, 1) := by decide +kernel
theorem dX8_gamma_39 : decode cX8_gamma 39 = .ok (.ishl, 1) := by decide +kernel
theorem dX8_gamma_40 : decode cX8_gamma 40 = .ok (.aload_n 0, 1) := by decide +kernel
theorem dX8_gamma_41 : decode cX8_gamma 41 = .ok (.invokevirtual 63, 3) := by decide +kernel
theorem dX8_gamma_44 : decode cX8_gamma 44 = .ok (.ior, 1) := by decide +kernel
theorem dX8_gamma_45 : decode cX8_gamma 45 = .ok (.istore_n 2, 1) := by decide +kernel
theorem dX8_gamma_46 : decode cX8_gamma 46 = .ok (.iinc 3 1, 3) := by decide +kernel
theorem dX8_gamma_49 : decode cX8_gamma 49 = .ok (.goto (-17), 3) := by decide +kernel
theorem dX8_gamma_52 : decode cX8_gamma 52 = .ok (.iload_n 2, 1) := by decide +kernel
theorem dX8_gamma_53 : decode cX8_gamma 53 = .ok (.ireturn, 1) := by decide +kernel
theorem dX8_oneBit_0 : decode cX8_oneBit 0 = .ok (.aload_n 0, 1) := by decide +kernel
theorem dX8_oneBit_1 : decode cX8_oneBit 1 = .ok (.getfield 9, 3) := by decide +kernel
theorem dX8_oneBit_4 : decode cX8_oneBit 4 = .ok (.ifCond .gt 5, 3) := by decide +kernel
theorem dX8_oneBit_7 : decode cX8_oneBit 7 = .ok (.iconst 0, 1) := by decide +kernel
theorem dX8_oneBit_8 : decode cX8_oneBit 8 = .ok (.ireturn, 1) := by decide +kernel
theorem dX8_oneBit_9 : decode cX8_oneBit 9 = .ok (.aload_n 0, 1) := by decide +kernel
theorem dX8_oneBit_10 : decode cX8_oneBit 10 = .ok (.getfield 21, 3) := by decide +kernel
theorem dX8_oneBit_13 : decode cX8_oneBit 13 = .ok (.aload_n 0, 1) := by decide +kernel
theorem dX8_oneBit_14 : decode cX8_oneBit 14 = .ok (.getfield 18, 3) := by decide +kernel
theorem dX8_oneBit_17 : decode cX8_oneBit 17 = .ok (.invokestatic 66, 3) := by decide +kernel
theorem dX8_oneBit_20 : decode cX8_oneBit 20 = .ok (.if_icmp .ne 33, 3) := by decide +kernel
theorem dX8_oneBit_23 : decode cX8_oneBit 23 = .ok (.aload_n 0, 1) := by decide +kernel
theorem dX8_oneBit_24 : decode cX8_oneBit 24 = .ok (.aload_n 0, 1) := by decide +kernel
theorem dX8_oneBit_25 : decode cX8_oneBit 25 = .ok (.getfield 36, 3) := by decide +kernel
theorem dX8_oneBit_28 : decode cX8_oneBit 28 = .ok (.aload_n 0, 1) := by decide +kernel
theorem dX8_oneBit_29 : decode cX8_oneBit 29 = .ok (.getfield 15, 3) := by decide +kernel
theorem dX8_oneBit_32 : decode cX8_oneBit 32 = .ok (.invokevirtual 69, 3) := by decide +kernel
theorem dX8_oneBit_35 : decode cX8_oneBit 35 = .ok (.putfield 15, 3) := by decide +kernel
theorem dX8_oneBit_38 : decode cX8_oneBit 38 = .ok (.aload_n 0, 1) := by decide +kernel
theorem dX8_oneBit_39 : decode cX8_oneBit 39 = .ok (.dup, 1) := by decide +kernel
theorem dX8_oneBit_40 : decode cX8_oneBit 40 = .ok (.getfield 18, 3) := by decide +kernel
theorem dX8_oneBit_43 : decode cX8_oneBit 43 = .ok (.iconst 1, 1) := by decide +kernel
theorem dX8_oneBit_44 : decode cX8_oneBit 44 = .ok (.iadd, 1) := by decide +kernel
theorem dX8_oneBit_45 : decode cX8_oneBit 45 = .ok (.putfield 18, 3) := by decide +kernel
theorem dX8_oneBit_48 : decode cX8_oneBit 48 = .ok (.aload_n 0, 1) := by decide +kernel
theorem dX8_oneBit_49 : decode cX8_oneBit 49 = .ok (.iconst 0, 1) := by decide +kernel
theorem dX8_oneBit_50 : decode cX8_oneBit 50 = .ok (.putfield 21, 3) := by decide +kernel
theorem dX8_oneBit_53 : decode cX8_oneBit 53 = .ok (.aload_n 0, 1) := by decide +kernel
theorem dX8_oneBit_54 : decode cX8_oneBit 54 = .ok (.getfield 36, 3) := by decide +kernel
theorem dX8_oneBit_57 : decode cX8_oneBit 57 = .ok (.aload_n 0, 1) := by decide +kernel
theorem dX8_oneBit_58 : decode cX8_oneBit 58 = .ok (.getfield 15, 3) := by decide +kernel
theorem dX8_oneBit_61 : decode cX8_oneBit 61 = .ok (.aload_n 0, 1) := by decide +kernel
theorem dX8_oneBit_62 : decode cX8_oneBit 62 = .ok (.getfield 21, 3) := by decide +kernel
theorem dX8_oneBit_65 : decode cX8_oneBit 65 = .ok (.invokevirtual 72, 3) := by decide +kernel
theorem dX8_oneBit_68 : decode cX8_oneBit 68 = .ok (.istore_n 1, 1) := by decide +kernel
theorem dX8_oneBit_69 : decode cX8_oneBit 69 = .ok (.aload_n 0, 1) := by decide +kernel
theorem dX8_oneBit_70 : decode cX8_oneBit 70 = .ok (.dup, 1) := by decide +kernel
theorem dX8_oneBit_71 : decode cX8_oneBit 71 = .ok (.getfield 21, 3) := by decide +kernel
theorem dX8_oneBit_74 : decode cX8_oneBit 74 = .ok (.iconst 1, 1) := by decide +kernel
theorem dX8_oneBit_75 : decode cX8_oneBit 75 = .ok (.iadd, 1) := by decide +kernel
theorem dX8_oneBit_76 : decode cX8_oneBit 76 = .ok (.putfield 21, 3) := by decide +kernel
theorem dX8_oneBit_79 : decode cX8_oneBit 79 = .ok (.aload_n 0, 1) := by decide +kernel
theorem dX8_oneBit_80 : decode cX8_oneBit 80 = .ok (.dup, 1) := by decide +kernel
theorem dX8_oneBit_81 : decode cX8_oneBit 81 = .ok (.getfield 9, 3) := by decide +kernel
theorem dX8_oneBit_84 : decode cX8_oneBit 84 = .ok (.iconst 1, 1) := by decide +kernel
theorem dX8_oneBit_85 : decode cX8_oneBit 85 = .ok (.isub, 1) := by decide +kernel
theorem dX8_oneBit_86 : decode cX8_oneBit 86 = .ok (.putfield 9, 3) := by decide +kernel
theorem dX8_oneBit_89 : decode cX8_oneBit 89 = .ok (.iload_n 1, 1) := by decide +kernel
theorem dX8_oneBit_90 : decode cX8_oneBit 90 = .ok (.ireturn, 1) := by decide +kernel
theorem dX9_init_0 : decode cX9_init 0 = .ok (.aload_n 0, 1) := by decide +kernel
theorem dX9_init_1 : decode cX9_init 1 = .ok (.invokespecial 3, 3) := by decide +kernel
theorem dX9_init_4 : decode cX9_init 4 = .ok (.aload_n 0, 1) := by decide +kernel
theorem dX9_init_5 : decode cX9_init 5 = .ok (.sipush 600, 3) := by decide +kernel
theorem dX9_init_8 : decode cX9_init 8 = .ok (.newarray .byte, 2) := by decide +kernel
theorem dX9_init_10 : decode cX9_init 10 = .ok (.putfield 9, 3) := by decide +kernel
theorem dX9_init_13 : decode cX9_init 13 = .ok (.aload_n 0, 1) := by decide +kernel
theorem dX9_init_14 : decode cX9_init 14 = .ok (.bipush 12, 2) := by decide +kernel
theorem dX9_init_16 : decode cX9_init 16 = .ok (.newarray .byte, 2) := by decide +kernel
theorem dX9_init_18 : decode cX9_init 18 = .ok (.putfield 15, 3) := by decide +kernel
theorem dX9_init_21 : decode cX9_init 21 = .ok (.aload_n 0, 1) := by decide +kernel
theorem dX9_init_22 : decode cX9_init 22 = .ok (.iconst 0, 1) := by decide +kernel
theorem dX9_init_23 : decode cX9_init 23 = .ok (.putfield 18, 3) := by decide +kernel
theorem dX9_init_26 : decode cX9_init 26 = .ok (.aload_n 0, 1) := by decide +kernel
theorem dX9_init_27 : decode cX9_init 27 = .ok (.iconst 0, 1) := by decide +kernel
theorem dX9_init_28 : decode cX9_init 28 = .ok (.putfield 22, 3) := by decide +kernel
theorem dX9_init_31 : decode cX9_init 31 = .ok (.return_, 1) := by decide +kernel
theorem dX9_size_0 : decode cX9_size 0 = .ok (.aload_n 0, 1) := by decide +kernel
theorem dX9_size_1 : decode cX9_size 1 = .ok (.getfield 18, 3) := by decide +kernel
theorem dX9_size_4 : decode cX9_size 4 = .ok (.ireturn, 1) := by decide +kernel
theorem dX9_hasRoom_0 : decode cX9_hasRoom 0 = .ok (.aload_n 0, 1) := by decide +kernel
theorem dX9_hasRoom_1 : decode cX9_hasRoom 1 = .ok (.getfield 18, 3) := by decide +kernel
theorem dX9_hasRoom_4 : decode cX9_hasRoom 4 = .ok (.iload_n 1, 1) := by decide +kernel
theorem dX9_hasRoom_5 : decode cX9_hasRoom 5 = .ok (.iadd, 1) := by decide +kernel
theorem dX9_hasRoom_6 : decode cX9_hasRoom 6 = .ok (.sipush 600, 3) := by decide +kernel
theorem dX9_hasRoom_9 : decode cX9_hasRoom 9 = .ok (.if_icmp .gt 7, 3) := by decide +kernel
theorem dX9_hasRoom_12 : decode cX9_hasRoom 12 = .ok (.iconst 1, 1) := by decide +kernel
theorem dX9_hasRoom_13 : decode cX9_hasRoom 13 = .ok (.goto 4, 3) := by decide +kernel
theorem dX9_hasRoom_16 : decode cX9_hasRoom 16 = .ok (.iconst 0, 1) := by decide +kernel
theorem dX9_hasRoom_17 : decode cX9_hasRoom 17 = .ok (.ireturn, 1) := by decide +kernel
theorem dX9_put_0 : decode cX9_put 0 = .ok (.bipush 24, 2) := by decide +kernel
theorem dX9_put_2 : decode cX9_put 2 = .ok (.istore_n 2, 1) := by decide +kernel
theorem dX9_put_3 : decode cX9_put 3 = .ok (.iload_n 2, 1) := by decide +kernel
theorem dX9_put_4 : decode cX9_put 4 = .ok (.ifCond .lt 42, 3) := by decide +kernel
theorem dX9_put_7 : decode cX9_put 7 = .ok (.aload_n 0, 1) := by decide +kernel
theorem dX9_put_8 : decode cX9_put 8 = .ok (.getfield 18, 3) := by decide +kernel
theorem dX9_put_11 : decode cX9_put 11 = .ok (.sipush 600, 3) := by decide +kernel
theorem dX9_put_14 : decode cX9_put 14 = .ok (.if_icmp .ge 32, 3) := by decide +kernel
theorem dX9_put_17 : decode cX9_put 17 = .ok (.aload_n 0, 1) := by decide +kernel
theorem dX9_put_18 : decode cX9_put 18 = .ok (.getfield 9, 3) := by decide +kernel
theorem dX9_put_21 : decode cX9_put 21 = .ok (.aload_n 0, 1) := by decide +kernel
theorem dX9_put_22 : decode cX9_put 22 = .ok (.getfield 18, 3) := by decide +kernel
theorem dX9_put_25 : decode cX9_put 25 = .ok (.iload_n 1, 1) := by decide +kernel
theorem dX9_put_26 : decode cX9_put 26 = .ok (.iload_n 2, 1) := by decide +kernel
theorem dX9_put_27 : decode cX9_put 27 = .ok (.iushr, 1) := by decide +kernel
theorem dX9_put_28 : decode cX9_put 28 = .ok (.i2b, 1) := by decide +kernel
theorem dX9_put_29 : decode cX9_put 29 = .ok (.bastore, 1) := by decide +kernel
theorem dX9_put_30 : decode cX9_put 30 = .ok (.aload_n 0, 1) := by decide +kernel
theorem dX9_put_31 : decode cX9_put 31 = .ok (.dup, 1) := by decide +kernel
theorem dX9_put_32 : decode cX9_put 32 = .ok (.getfield 18, 3) := by decide +kernel
theorem dX9_put_35 : decode cX9_put 35 = .ok (.iconst 1, 1) := by decide +kernel
theorem dX9_put_36 : decode cX9_put 36 = .ok (.iadd, 1) := by decide +kernel
theorem dX9_put_37 : decode cX9_put 37 = .ok (.putfield 18, 3) := by decide +kernel
theorem dX9_put_40 : decode cX9_put 40 = .ok (.iinc 2 (-8), 3) := by decide +kernel
theorem dX9_put_43 : decode cX9_put 43 = .ok (.goto (-40), 3) := by decide +kernel
theorem dX9_put_46 : decode cX9_put 46 = .ok (.return_, 1) := by decide +kernel
theorem dX9_cut_0 : decode cX9_cut 0 = .ok (.iload_n 1, 1) := by decide +kernel
theorem dX9_cut_1 : decode cX9_cut 1 = .ok (.ifCond .lt 11, 3) := by decide +kernel
theorem dX9_cut_4 : decode cX9_cut 4 = .ok (.iload_n 1, 1) := by decide +kernel
theorem dX9_cut_5 : decode cX9_cut 5 = .ok (.aload_n 0, 1) := by decide +kernel
theorem dX9_cut_6 : decode cX9_cut 6 = .ok (.getfield 18, 3) := by decide +kernel
theorem dX9_cut_9 : decode cX9_cut 9 = .ok (.if_icmp .le 5, 3) := by decide +kernel
theorem dX9_cut_12 : decode cX9_cut 12 = .ok (.iconst 0, 1) := by decide +kernel
theorem dX9_cut_13 : decode cX9_cut 13 = .ok (.ireturn, 1) := by decide +kernel
theorem dX9_cut_14 : decode cX9_cut 14 = .ok (.aload_n 0, 1) := by decide +kernel
theorem dX9_cut_15 : decode cX9_cut 15 = .ok (.iload_n 1, 1) := by decide +kernel
theorem dX9_cut_16 : decode cX9_cut 16 = .ok (.putfield 18, 3) := by decide +kernel
theorem dX9_cut_19 : decode cX9_cut 19 = .ok (.iconst 1, 1) := by decide +kernel
theorem dX9_cut_20 : decode cX9_cut 20 = .ok (.ireturn, 1) := by decide +kernel
theorem dX9_clear_0 : decode cX9_clear 0 = .ok (.aload_n 0, 1) := by decide +kernel
theorem dX9_clear_1 : decode cX9_clear 1 = .ok (.iconst 0, 1) := by decide +kernel
theorem dX9_clear_2 : decode cX9_clear 2 = .ok (.putfield 18, 3) := by decide +kernel
theorem dX9_clear_5 : decode cX9_clear 5 = .ok (.return_, 1) := by decide +kernel
theorem dX9_at_0 : decode cX9_at 0 = .ok (.iload_n 1, 1) := by decide +kernel
theorem dX9_at_1 : decode cX9_at 1 = .ok (.ifCond .lt 24, 3) := by decide +kernel
theorem dX9_at_4 : decode cX9_at 4 = .ok (.iload_n 1, 1) := by decide +kernel
theorem dX9_at_5 : decode cX9_at 5 = .ok (.aload_n 0, 1) := by decide +kernel
theorem dX9_at_6 : decode cX9_at 6 = .ok (.getfield 18, 3) := by decide +kernel
theorem dX9_at_9 : decode cX9_at 9 = .ok (.if_icmp .ge 16, 3) := by decide +kernel
theorem dX9_at_12 : decode cX9_at 12 = .ok (.aload_n 0, 1) := by decide +kernel
theorem dX9_at_13 : decode cX9_at 13 = .ok (.getfield 9, 3) := by decide +kernel
theorem dX9_at_16 : decode cX9_at 16 = .ok (.iload_n 1, 1) := by decide +kernel
theorem dX9_at_17 : decode cX9_at 17 = .ok (.baload, 1) := by decide +kernel
theorem dX9_at_18 : decode cX9_at 18 = .ok (.sipush 255, 3) := by decide +kernel
theorem dX9_at_21 : decode cX9_at 21 = .ok (.iand, 1) := by decide +kernel
theorem dX9_at_22 : decode cX9_at 22 = .ok (.goto 4, 3) := by decide +kernel
theorem dX9_at_25 : decode cX9_at 25 = .ok (.iconst (-1), 1) := by decide +kernel
theorem dX9_at_26 : decode cX9_at 26 = .ok (.ireturn, 1) := by decide +kernel
theorem dX9_isDigit_0 : decode cX9_isDigit 0 = .ok (.iload_n 0, 1) := by decide +kernel
theorem dX9_isDigit_1 : decode cX9_isDigit 1 = .ok (.bipush 48, 2) := by decide +kernel
theorem dX9_isDigit_3 : decode cX9_isDigit 3 = .ok (.if_icmp .lt 13, 3) := by decide +kernel
theorem dX9_isDigit_6 : decode cX9_isDigit 6 = .ok (.iload_n 0, 1) := by decide +kernel
theorem dX9_isDigit_7 : decode cX9_isDigit 7 = .ok (.bipush 57, 2) := by decide +kernel
theorem dX9_isDigit_9 : decode cX9_isDigit 9 = .ok (.if_icmp .gt 7, 3) := by decide +kernel
theorem dX9_isDigit_12 : decode cX9_isDigit 12 = .ok (.iconst 1, 1) := by decide +kernel
theorem dX9_isDigit_13 : decode cX9_isDigit 13 = .ok (.goto 4, 3) := by decide +kernel
theorem dX9_isDigit_16 : decode cX9_isDigit 16 = .ok (.iconst 0, 1) := by decide +kernel
theorem dX9_isDigit_17 : decode cX9_isDigit 17 = .ok (.ireturn, 1) := by decide +kernel
theorem dX9_small_0 : decode cX9_small 0 = .ok (.iload_n 0, 1) := by decide +kernel
theorem dX9_small_1 : decode cX9_small 1 = .ok (.bipush 65, 2) := by decide +kernel
theorem dX9_small_3 : decode cX9_small 3 = .ok (.if_icmp .lt 16, 3) := by decide +kernel
theorem dX9_small_6 : decode cX9_small 6 = .ok (.iload_n 0, 1) := by decide +kernel
theorem dX9_small_7 : decode cX9_small 7 = .ok (.bipush 90, 2) := by decide +kernel
theorem dX9_small_9 : decode cX9_small 9 = .ok (.if_icmp .gt 10, 3) := by decide +kernel
theorem dX9_small_12 : decode cX9_small 12 = .ok (.iload_n 0, 1) := by decide +kernel
theorem dX9_small_13 : decode cX9_small 13 = .ok (.bipush 32, 2) := by decide +kernel
theorem dX9_small_15 : decode cX9_small 15 = .ok (.iadd, 1) := by decide +kernel
theorem dX9_small_16 : decode cX9_small 16 = .ok (.goto 4, 3) := by decide +kernel
theorem dX9_small_19 : decode cX9_small 19 = .ok (.iload_n 0, 1) := by decide +kernel
theorem dX9_small_20 : decode cX9_small 20 = .ok (.ireturn, 1) := by decide +kernel
theorem dX9_inToken_0 : decode cX9_inToken 0 = .ok (.iload_n 1, 1) := by decide +kernel
theorem dX9_inToken_1 : decode cX9_inToken 1 = .ok (.ifCond .lt 11, 3) := by decide +kernel
theorem dX9_inToken_4 : decode cX9_inToken 4 = .ok (.iload_n 1, 1) := by decide +kernel
theorem dX9_inToken_5 : decode cX9_inToken 5 = .ok (.aload_n 0, 1) := by decide +kernel
theorem dX9_inToken_6 : decode cX9_inToken 6 = .ok (.getfield 18, 3) := by decide +kernel
theorem dX9_inToken_9 : decode cX9_inToken 9 = .ok (.if_icmp .lt 5, 3) := by decide +kernel
theorem dX9_inToken_12 : decode cX9_inToken 12 = .ok (.iconst 0, 1) := by decide +kernel
theorem dX9_inToken_13 : decode cX9_inToken 13 = .ok (.ireturn, 1) := by decide +kernel
theorem dX9_inToken_14 : decode cX9_inToken 14 = .ok (.aload_n 0, 1) := by decide +kernel
theorem dX9_inToken_15 : decode cX9_inToken 15 = .ok (.getfield 9, 3) := by decide +kernel
theorem dX9_inToken_18 : decode cX9_inToken 18 = .ok (.iload_n 1, 1) := by decide +kernel
theorem dX9_inToken_19 : decode cX9_inToken 19 = .ok (.baload, 1) := by decide +kernel
theorem dX9_inToken_20 : decode cX9_inToken 20 = .ok (.istore_n 2, 1) := by decide +kernel
theorem dX9_inToken_21 : decode cX9_inToken 21 = .ok (.iload_n 2, 1) := by decide +kernel
theorem dX9_inToken_22 : decode cX9_inToken 22 = .ok (.bipush 97, 2) := by decide +kernel
theorem dX9_inToken_24 : decode cX9_inToken 24 = .ok (.if_icmp .lt 9, 3) := by decide +kernel
theorem dX9_inToken_27 : decode cX9_inToken 27 = .ok (.iload_n 2, 1) := by decide +kernel
theorem dX9_inToken_28 : decode cX9_inToken 28 = .ok (.bipush 122, 2) := by decide +kernel
theorem dX9_inToken_30 : decode cX9_inToken 30 = .ok (.if_icmp .le 27, 3) := by decide +kernel
theorem dX9_inToken_33 : decode cX9_inToken 33 = .ok (.iload_n 2, 1) := by decide +kernel
theorem dX9_inToken_34 : decode cX9_inToken 34 = .ok (.bipush 65, 2) := by decide +kernel
theorem dX9_inToken_36 : decode cX9_inToken 36 = .ok (.if_icmp .lt 9, 3) := by decide +kernel
theorem dX9_inToken_39 : decode cX9_inToken 39 = .ok (.iload_n 2, 1) := by decide +kernel
theorem dX9_inToken_40 : decode cX9_inToken 40 = .ok (.bipush 90, 2) := by decide +kernel
theorem dX9_inToken_42 : decode cX9_inToken 42 = .ok (.if_icmp .le 15, 3) := by decide +kernel
theorem dX9_inToken_45 : decode cX9_inToken 45 = .ok (.iload_n 2, 1) := by decide +kernel
theorem dX9_inToken_46 : decode cX9_inToken 46 = .ok (.bipush 48, 2) := by decide +kernel
theorem dX9_inToken_48 : decode cX9_inToken 48 = .ok (.if_icmp .lt 13, 3) := by decide +kernel
theorem dX9_inToken_51 : decode cX9_inToken 51 = .ok (.iload_n 2, 1) := by decide +kernel
theorem dX9_inToken_52 : decode cX9_inToken 52 = .ok (.bipush 57, 2) := by decide +kernel
theorem dX9_inToken_54 : decode cX9_inToken 54 = .ok (.if_icmp .gt 7, 3) := by decide +kernel
theorem dX9_inToken_57 : decode cX9_inToken 57 = .ok (.iconst 1, 1) := by decide +kernel
theorem dX9_inToken_58 : decode cX9_inToken 58 = .ok (.goto 4, 3) := by decide +kernel
theorem dX9_inToken_61 : decode cX9_inToken 61 = .ok (.iconst 0, 1) := by decide +kernel
theorem dX9_inToken_62 : decode cX9_inToken 62 = .ok (.ireturn, 1) := by decide +kernel
theorem dX9_startsToken_0 : decode cX9_startsToken 0 = .ok (.aload_n 0, 1) := by decide +kernel
theorem dX9_startsToken_1 : decode cX9_startsToken 1 = .ok (.iload_n 1, 1) := by decide +kernel
theorem dX9_startsToken_2 : decode cX9_startsToken 2 = .ok (.invokevirtual 25, 3) := by decide +kernel
theorem dX9_startsToken_5 : decode cX9_startsToken 5 = .ok (.ifCond .eq 17, 3) := by decide +kernel
theorem dX9_startsToken_8 : decode cX9_startsToken 8 = .ok (.aload_n 0, 1) := by decide +kernel
theorem dX9_startsToken_9 : decode cX9_startsToken 9 = .ok (.iload_n 1, 1) := by decide +kernel
theorem dX9_startsToken_10 : decode cX9_startsToken 10 = .ok (.iconst 1, 1) := by decide +kernel
theorem dX9_startsToken_11 : decode cX9_startsToken 11 = .ok (.isub, 1) := by decide +kernel
theorem dX9_startsToken_12 : decode cX9_startsToken 12 = .ok (.invokevirtual 25, 3) := by decide +kernel
theorem dX9_startsToken_15 : decode cX9_startsToken 15 = .ok (.ifCond .ne 7, 3) := by decide +kernel
theorem dX9_startsToken_18 : decode cX9_startsToken 18 = .ok (.iconst 1, 1) := by decide +kernel
theorem dX9_startsToken_19 : decode cX9_startsToken 19 = .ok (.goto 4, 3) := by decide +kernel
theorem dX9_startsToken_22 : decode cX9_startsToken 22 = .ok (.iconst 0, 1) := by decide +kernel
theorem dX9_startsToken_23 : decode cX9_startsToken 23 = .ok (.ireturn, 1) := by decide +kernel
theorem dX9_tokenEnd_0 : decode cX9_tokenEnd 0 = .ok (.iload_n 1, 1) := by decide +kernel
theorem dX9_tokenEnd_1 : decode cX9_tokenEnd 1 = .ok (.istore_n 2, 1) := by decide +kernel
theorem dX9_tokenEnd_2 : decode cX9_tokenEnd 2 = .ok (.iload_n 2, 1) := by decide +kernel
theorem dX9_tokenEnd_3 : decode cX9_tokenEnd 3 = .ok (.aload_n 0, 1) := by decide +kernel
theorem dX9_tokenEnd_4 : decode cX9_tokenEnd 4 = .ok (.getfield 18, 3) := by decide +kernel
theorem dX9_tokenEnd_7 : decode cX9_tokenEnd 7 = .ok (.if_icmp .ge 17, 3) := by decide +kernel
theorem dX9_tokenEnd_10 : decode cX9_tokenEnd 10 = .ok (.aload_n 0, 1) := by decide +kernel
theorem dX9_tokenEnd_11 : decode cX9_tokenEnd 11 = .ok (.iload_n 2, 1) := by decide +kernel
theorem dX9_tokenEnd_12 : decode cX9_tokenEnd 12 = .ok (.invokevirtual 25, 3) := by decide +kernel
theorem dX9_tokenEnd_15 : decode cX9_tokenEnd 15 = .ok (.ifCond .eq 9, 3) := by decide +kernel
theorem dX9_tokenEnd_18 : decode cX9_tokenEnd 18 = .ok (.iinc 2 1, 3) := by decide +kernel
theorem dX9_tokenEnd_21 : decode cX9_tokenEnd 21 = .ok (.goto (-19), 3) := by decide +kernel
theorem dX9_tokenEnd_24 : decode cX9_tokenEnd 24 = .ok (.iload_n 2, 1) := by decide +kernel
theorem dX9_tokenEnd_25 : decode cX9_tokenEnd 25 = .ok (.ireturn, 1) := by decide +kernel
theorem dX9_behindBlanks_0 : decode cX9_behindBlanks 0 = .ok (.iload_n 1, 1) := by decide +kernel
theorem dX9_behindBlanks_1 : decode cX9_behindBlanks 1 = .ok (.iconst 0, 1) := by decide +kernel
theorem dX9_behindBlanks_2 : decode cX9_behindBlanks 2 = .ok (.invokestatic 29, 3) := by decide +kernel
theorem dX9_behindBlanks_5 : decode cX9_behindBlanks 5 = .ok (.istore_n 2, 1) := by decide +kernel
theorem dX9_behindBlanks_6 : decode cX9_behindBlanks 6 = .ok (.iload_n 2, 1) := by decide +kernel
theorem dX9_behindBlanks_7 : decode cX9_behindBlanks 7 = .ok (.aload_n 0, 1) := by decide +kernel
theorem dX9_behindBlanks_8 : decode cX9_behindBlanks 8 = .ok (.getfield 18, 3) := by decide +kernel
theorem dX9_behindBlanks_11 : decode cX9_behindBlanks 11 = .ok (.if_icmp .ge 31, 3) := by decide +kernel
theorem dX9_behindBlanks_14 : decode cX9_behindBlanks 14 = .ok (.aload_n 0, 1) := by decide +kernel
theorem dX9_behindBlanks_15 : decode cX9_behindBlanks 15 = .ok (.getfield 9, 3) := by decide +kernel
theorem dX9_behindBlanks_18 : decode cX9_behindBlanks 18 = .ok (.iload_n 2, 1) := by decide +kernel
theorem dX9_behindBlanks_19 : decode cX9_behindBlanks 19 = .ok (.baload, 1) := by decide +kernel
theorem dX9_behindBlanks_20 : decode cX9_behindBlanks 20 = .ok (.bipush 32, 2) := by decide +kernel
theorem dX9_behindBlanks_22 : decode cX9_behindBlanks 22 = .ok (.if_icmp .eq 14, 3) := by decide +kernel
theorem dX9_behindBlanks_25 : decode cX9_behindBlanks 25 = .ok (.aload_n 0, 1) := by decide +kernel
theorem dX9_behindBlanks_26 : decode cX9_behindBlanks 26 = .ok (.getfield 9, 3) := by decide +kernel
theorem dX9_behindBlanks_29 : decode cX9_behindBlanks 29 = .ok (.iload_n 2, 1) := by decide +kernel
theorem dX9_behindBlanks_30 : decode cX9_behindBlanks 30 = .ok (.baload, 1) := by decide +kernel
theorem dX9_behindBlanks_31 : decode cX9_behindBlanks 31 = .ok (.bipush 10, 2) := by decide +kernel
theorem dX9_behindBlanks_33 : decode cX9_behindBlanks 33 = .ok (.if_icmp .ne 9, 3) := by decide +kernel
theorem dX9_behindBlanks_36 : decode cX9_behindBlanks 36 = .ok (.iinc 2 1, 3) := by decide +kernel
theorem dX9_behindBlanks_39 : decode cX9_behindBlanks 39 = .ok (.goto (-33), 3) := by decide +kernel
theorem dX9_behindBlanks_42 : decode cX9_behindBlanks 42 = .ok (.iload_n 2, 1) := by decide +kernel
theorem dX9_behindBlanks_43 : decode cX9_behindBlanks 43 = .ok (.ireturn, 1) := by decide +kernel
theorem dX9_spells_0 : decode cX9_spells 0 = .ok (.iload_n 2, 1) := by decide +kernel
theorem dX9_spells_1 : decode cX9_spells 1 = .ok (.iload_n 1, 1) := by decide +kernel
theorem dX9_spells_2 : decode cX9_spells 2 = .ok (.isub, 1) := by decide +kernel
theorem dX9_spells_3 : decode cX9_spells 3 = .ok (.aload_n 3, 1) := by decide +kernel
theorem dX9_spells_4 : decode cX9_spells 4 = .ok (.invokevirtual 35, 3) := by decide +kernel
theorem dX9_spells_7 : decode cX9_spells 7 = .ok (.if_icmp .ne 15, 3) := by decide +kernel
theorem dX9_spells_10 : decode cX9_spells 10 = .ok (.iload_n 1, 1) := by decide +kernel
theorem dX9_spells_11 : decode cX9_spells 11 = .ok (.ifCond .lt 11, 3) := by decide +kernel
theorem dX9_spells_14 : decode cX9_spells 14 = .ok (.iload_n 2, 1) := by decide +kernel
theorem dX9_spells_15 : decode cX9_spells 15 = .ok (.aload_n 0, 1) := by decide +kernel
theorem dX9_spells_16 : decode cX9_spells 16 = .ok (.getfield 18, 3) := by decide +kernel
theorem dX9_spells_19 : decode cX9_spells 19 = .ok (.if_icmp .le 5, 3) := by decide +kernel
theorem dX9_spells_22 : decode cX9_spells 22 = .ok (.iconst 0, 1) := by decide +kernel
theorem dX9_spells_23 : decode cX9_spells 23 = .ok (.ireturn, 1) := by decide +kernel
theorem dX9_spells_24 : decode cX9_spells 24 = .ok (.iconst 0, 1) := by decide +kernel
theorem dX9_spells_25 : decode cX9_spells 25 = .ok (.istore 4, 2) := by decide +kernel
theorem dX9_spells_27 : decode cX9_spells 27 = .ok (.iload 4, 2) := by decide +kernel
theorem dX9_spells_29 : decode cX9_spells 29 = .ok (.aload_n 3, 1) := by decide +kernel
theorem dX9_spells_30 : decode cX9_spells 30 = .ok (.invokevirtual 35, 3) := by decide +kernel
theorem dX9_spells_33 : decode cX9_spells 33 = .ok (.if_icmp .ge 32, 3) := by decide +kernel
theorem dX9_spells_36 : decode cX9_spells 36 = .ok (.aload_n 0, 1) := by decide +kernel
theorem dX9_spells_37 : decode cX9_spells 37 = .ok (.getfield 9, 3) := by decide +kernel
theorem dX9_spells_40 : decode cX9_spells 40 = .ok (.iload_n 1, 1) := by decide +kernel
theorem dX9_spells_41 : decode cX9_spells 41 = .ok (.iload 4, 2) := by decide +kernel
theorem dX9_spells_43 : decode cX9_spells 43 = .ok (.iadd, 1) := by decide +kernel
theorem dX9_spells_44 : decode cX9_spells 44 = .ok (.baload, 1) := by decide +kernel
theorem dX9_spells_45 : decode cX9_spells 45 = .ok (.bipush 32, 2) := by decide +kernel
theorem dX9_spells_47 : decode cX9_spells 47 = .ok (.ior, 1) := by decide +kernel
theorem dX9_spells_48 : decode cX9_spells 48 = .ok (.aload_n 3, 1) := by decide +kernel
theorem dX9_spells_49 : decode cX9_spells 49 = .ok (.iload 4, 2) := by decide +kernel
theorem dX9_spells_51 : decode cX9_spells 51 = .ok (.invokevirtual 40, 3) := by decide +kernel
theorem dX9_spells_54 : decode cX9_spells 54 = .ok (.if_icmp .eq 5, 3) := by decide +kernel
theorem dX9_spells_57 : decode cX9_spells 57 = .ok (.iconst 0, 1) := by decide +kernel
theorem dX9_spells_58 : decode cX9_spells 58 = .ok (.ireturn, 1) := by decide +kernel
theorem dX9_spells_59 : decode cX9_spells 59 = .ok (.iinc 4 1, 3) := by decide +kernel
theorem dX9_spells_62 : decode cX9_spells 62 = .ok (.goto (-35), 3) := by decide +kernel
theorem dX9_spells_65 : decode cX9_spells 65 = .ok (.iconst 1, 1) := by decide +kernel
theorem dX9_spells_66 : decode cX9_spells 66 = .ok (.ireturn, 1) := by decide +kernel
theorem dX9_digits_0 : decode cX9_digits 0 = .ok (.iload_n 2, 1) := by decide +kernel
theorem dX9_digits_1 : decode cX9_digits 1 = .ok (.iload_n 1, 1) := by decide +kernel
theorem dX9_digits_2 : decode cX9_digits 2 = .ok (.if_icmp .le 10, 3) := by decide +kernel
theorem dX9_digits_5 : decode cX9_digits 5 = .ok (.iload_n 2, 1) := by decide +kernel
theorem dX9_digits_6 : decode cX9_digits 6 = .ok (.iload_n 1, 1) := by decide +kernel
theorem dX9_digits_7 : decode cX9_digits 7 = .ok (.isub, 1) := by decide +kernel
theorem dX9_digits_8 : decode cX9_digits 8 = .ok (.iload_n 3, 1) := by decide +kernel
theorem dX9_digits_9 : decode cX9_digits 9 = .ok (.if_icmp .le 5, 3) := by decide +kernel
theorem dX9_digits_12 : decode cX9_digits 12 = .ok (.iconst (-1), 1) := by decide +kernel
theorem dX9_digits_13 : decode cX9_digits 13 = .ok (.ireturn, 1) := by decide +kernel
theorem dX9_digits_14 : decode cX9_digits 14 = .ok (.iconst 0, 1) := by decide +kernel
theorem dX9_digits_15 : decode cX9_digits 15 = .ok (.istore 4, 2) := by decide +kernel
theorem dX9_digits_17 : decode cX9_digits 17 = .ok (.iload_n 1, 1) := by decide +kernel
theorem dX9_digits_18 : decode cX9_digits 18 = .ok (.istore 5, 2) := by decide +kernel
theorem dX9_digits_20 : decode cX9_digits 20 = .ok (.iload 5, 2) := by decide +kernel
theorem dX9_digits_22 : decode cX9_digits 22 = .ok (.iload_n 2, 1) := by decide +kernel
theorem dX9_digits_23 : decode cX9_digits 23 = .ok (.if_icmp .ge 40, 3) := by decide +kernel
theorem dX9_digits_26 : decode cX9_digits 26 = .ok (.aload_n 0, 1) := by decide +kernel
theorem dX9_digits_27 : decode cX9_digits 27 = .ok (.iload 5, 2) := by decide +kernel
theorem dX9_digits_29 : decode cX9_digits 29 = .ok (.invokevirtual 44, 3) := by decide +kernel
theorem dX9_digits_32 : decode cX9_digits 32 = .ok (.invokestatic 48, 3) := by decide +kernel
theorem dX9_digits_35 : decode cX9_digits 35 = .ok (.ifCond .ne 5, 3) := by decide +kernel
theorem dX9_digits_38 : decode cX9_digits 38 = .ok (.iconst (-1), 1) := by decide +kernel
theorem dX9_digits_39 : decode cX9_digits 39 = .ok (.ireturn, 1) := by decide +kernel
theorem dX9_digits_40 : decode cX9_digits 40 = .ok (.iload 4, 2) := by decide +kernel
theorem dX9_digits_42 : decode cX9_digits 42 = .ok (.bipush 10, 2) := by decide +kernel
theorem dX9_digits_44 : decode cX9_digits 44 = .ok (.imul, 1) := by decide +kernel
theorem dX9_digits_45 : decode cX9_digits 45 = .ok (.aload_n 0, 1) := by decide +kernel
theorem dX9_digits_46 : decode cX9_digits 46 = .ok (.iload 5, 2) := by decide +kernel
theorem dX9_digits_48 : decode cX9_digits 48 = .ok (.invokevirtual 44, 3) := by decide +kernel
theorem dX9_digits_51 : decode cX9_digits 51 = .ok (.iadd, 1) := by decide +kernel
theorem dX9_digits_52 : decode cX9_digits 52 = .ok (.bipush 48, 2) := by decide +kernel
theorem dX9_digits_54 : decode cX9_digits 54 = .ok (.isub, 1) := by decide +kernel
theorem dX9_digits_55 : decode cX9_digits 55 = .ok (.istore 4, 2) := by decide +kernel
theorem dX9_digits_57 : decode cX9_digits 57 = .ok (.iinc 5 1, 3) := by decide +kernel
theorem dX9_digits_60 : decode cX9_digits 60 = .ok (.goto (-40), 3) := by decide +kernel
theorem dX9_digits_63 : decode cX9_digits 63 = .ok (.iload 4, 2) := by decide +kernel
theorem dX9_digits_65 : decode cX9_digits 65 = .ok (.ireturn, 1) := by decide +kernel
theorem dX9_firstWord_0 : decode cX9_firstWord 0 = .ok (.iconst 0, 1) := by decide +kernel
theorem dX9_firstWord_1 : decode cX9_firstWord 1 = .ok (.istore_n 1, 1) := by decide +kernel
theorem dX9_firstWord_2 : decode cX9_firstWord 2 = .ok (.iload_n 1, 1) := by decide +kernel
theorem dX9_firstWord_3 : decode cX9_firstWord 3 = .ok (.aload_n 0, 1) := by decide +kernel
theorem dX9_firstWord_4 : decode cX9_firstWord 4 = .ok (.getfield 18, 3) := by decide +kernel
theorem dX9_firstWord_7 : decode cX9_firstWord 7 = .ok (.if_icmp .ge 23, 3) := by decide +kernel
theorem dX9_firstWord_10 : decode cX9_firstWord 10 = .ok (.aload_n 0, 1) := by decide +kernel
theorem dX9_firstWord_11 : decode cX9_firstWord 11 = .ok (.iload_n 1, 1) := by decide +kernel
theorem dX9_firstWord_12 : decode cX9_firstWord 12 = .ok (.invokevirtual 25, 3) := by decide +kernel
theorem dX9_firstWord_15 : decode cX9_firstWord 15 = .ok (.ifCond .eq 9, 3) := by decide +kernel
theorem dX9_firstWord_18 : decode cX9_firstWord 18 = .ok (.aload_n 0, 1) := by decide +kernel
theorem dX9_firstWord_19 : decode cX9_firstWord 19 = .ok (.iload_n 1, 1) := by decide +kernel
theorem dX9_firstWord_20 : decode cX9_firstWord 20 = .ok (.invokevirtual 51, 3) := by decide +kernel
theorem dX9_firstWord_23 : decode cX9_firstWord 23 = .ok (.lreturn, 1) := by decide +kernel
theorem dX9_firstWord_24 : decode cX9_firstWord 24 = .ok (.iinc 1 1, 3) := by decide +kernel
theorem dX9_firstWord_27 : decode cX9_firstWord 27 = .ok (.goto (-25), 3) := by decide +kernel
theorem dX9_firstWord_30 : decode cX9_firstWord 30 = .ok (.lconst 0, 1) := by decide +kernel
theorem dX9_firstWord_31 : decode cX9_firstWord 31 = .ok (.lreturn, 1) := by decide +kernel
theorem dX9_wordOf_0 : decode cX9_wordOf 0 = .ok (.aload_n 0, 1) := by decide +kernel
theorem dX9_wordOf_1 : decode cX9_wordOf 1 = .ok (.iload_n 1, 1) := by decide +kernel
theorem dX9_wordOf_2 : decode cX9_wordOf 2 = .ok (.invokevirtual 55, 3) := by decide +kernel
theorem dX9_wordOf_5 : decode cX9_wordOf 5 = .ok (.aload_n 0, 1) := by decide +kernel
theorem dX9_wordOf_6 : decode cX9_wordOf 6 = .ok (.invokevirtual 59, 3) := by decide +kernel
theorem dX9_wordOf_9 : decode cX9_wordOf 9 = .ok (.aload_n 0, 1) := by decide +kernel
theorem dX9_wordOf_10 : decode cX9_wordOf 10 = .ok (.getfield 15, 3) := by decide +kernel
theorem dX9_wordOf_13 : decode cX9_wordOf 13 = .ok (.aload_n 0, 1) := by decide +kernel
theorem dX9_wordOf_14 : decode cX9_wordOf 14 = .ok (.getfield 22, 3) := by decide +kernel
theorem dX9_wordOf_17 : decode cX9_wordOf 17 = .ok (.invokestatic 62, 3) := by decide +kernel
theorem dX9_wordOf_20 : decode cX9_wordOf 20 = .ok (.lreturn, 1) := by decide +kernel
theorem dX9_startOf_0 : decode cX9_startOf 0 = .ok (.aload_n 0, 1) := by decide +kernel
theorem dX9_startOf_1 : decode cX9_startOf 1 = .ok (.iload_n 1, 1) := by decide +kernel
theorem dX9_startOf_2 : decode cX9_startOf 2 = .ok (.invokevirtual 55, 3) := by decide +kernel
theorem dX9_startOf_5 : decode cX9_startOf 5 = .ok (.aload_n 0, 1) := by decide +kernel
theorem dX9_startOf_6 : decode cX9_startOf 6 = .ok (.getfield 15, 3) := by decide +kernel
theorem dX9_startOf_9 : decode cX9_startOf 9 = .ok (.aload_n 0, 1) := by decide +kernel
theorem dX9_startOf_10 : decode cX9_startOf 10 = .ok (.getfield 22, 3) := by decide +kernel
theorem dX9_startOf_13 : decode cX9_startOf 13 = .ok (.invokestatic 62, 3) := by decide +kernel
theorem dX9_startOf_16 : decode cX9_startOf 16 = .ok (.lreturn, 1) := by decide +kernel
theorem dX9_lettersRead_0 : decode cX9_lettersRead 0 = .ok (.aload_n 0, 1) := by decide +kernel
theorem dX9_lettersRead_1 : decode cX9_lettersRead 1 = .ok (.getfield 22, 3) := by decide +kernel
theorem dX9_lettersRead_4 : decode cX9_lettersRead 4 = .ok (.ireturn, 1) := by decide +kernel
theorem dX9_readLetters_0 : decode cX9_readLetters 0 = .ok (.aload_n 0, 1) := by decide +kernel
theorem dX9_readLetters_1 : decode cX9_readLetters 1 = .ok (.iconst 0, 1) := by decide +kernel
theorem dX9_readLetters_2 : decode cX9_readLetters 2 = .ok (.putfield 22, 3) := by decide +kernel
theorem dX9_readLetters_5 : decode cX9_readLetters 5 = .ok (.iconst 0, 1) := by decide +kernel
theorem dX9_readLetters_6 : decode cX9_readLetters 6 = .ok (.istore_n 2, 1) := by decide +kernel
theorem dX9_readLetters_7 : decode cX9_readLetters 7 = .ok (.iload_n 2, 1) := by decide +kernel
theorem dX9_readLetters_8 : decode cX9_readLetters 8 = .ok (.bipush 12, 2) := by decide +kernel
theorem dX9_readLetters_10 : decode cX9_readLetters 10 = .ok (.if_icmp .ge 43, 3) := by decide +kernel
theorem dX9_readLetters_13 : decode cX9_readLetters 13 = .ok (.aload_n 0, 1) := by decide +kernel
theorem dX9_readLetters_14 : decode cX9_readLetters 14 = .ok (.iload_n 1, 1) := by decide +kernel
theorem dX9_readLetters_15 : decode cX9_readLetters 15 = .ok (.iload_n 2, 1) := by decide +kernel
theorem dX9_readLetters_16 : decode cX9_readLetters 16 = .ok (.iadd, 1) := by decide +kernel
theorem dX9_readLetters_17 : decode cX9_readLetters 17 = .ok (.invokevirtual 25, 3) := by decide +kernel
theorem dX9_readLetters_20 : decode cX9_readLetters 20 = .ok (.ifCond .eq 33, 3) := by decide +kernel
theorem dX9_readLetters_23 : decode cX9_readLetters 23 = .ok (.aload_n 0, 1) := by decide +kernel
theorem dX9_readLetters_24 : decode cX9_readLetters 24 = .ok (.getfield 15, 3) := by decide +kernel
theorem dX9_readLetters_27 : decode cX9_readLetters 27 = .ok (.iload_n 2, 1) := by decide +kernel
theorem dX9_readLetters_28 : decode cX9_readLetters 28 = .ok (.aload_n 0, 1) := by decide +kernel
theorem dX9_readLetters_29 : decode cX9_readLetters 29 = .ok (.iload_n 1, 1) := by decide +kernel
theorem dX9_readLetters_30 : decode cX9_readLetters 30 = .ok (.iload_n 2, 1) := by decide +kernel
theorem dX9_readLetters_31 : decode cX9_readLetters 31 = .ok (.iadd, 1) := by decide +kernel
theorem dX9_readLetters_32 : decode cX9_readLetters 32 = .ok (.invokevirtual 44, 3) := by decide +kernel
theorem dX9_readLetters_35 : decode cX9_readLetters 35 = .ok (.invokestatic 68, 3) := by decide +kernel
theorem dX9_readLetters_38 : decode cX9_readLetters 38 = .ok (.i2b, 1) := by decide +kernel
theorem dX9_readLetters_39 : decode cX9_readLetters 39 = .ok (.bastore, 1) := by decide +kernel
theorem dX9_readLetters_40 : decode cX9_readLetters 40 = .ok (.aload_n 0, 1) := by decide +kernel
theorem dX9_readLetters_41 : decode cX9_readLetters 41 = .ok (.iload_n 2, 1) := by decide +kernel
theorem dX9_readLetters_42 : decode cX9_readLetters 42 = .ok (.iconst 1, 1) := by decide +kernel
theorem dX9_readLetters_43 : decode cX9_readLetters 43 = .ok (.iadd, 1) := by decide +kernel
theorem dX9_readLetters_44 : decode cX9_readLetters 44 = .ok (.putfield 22, 3) := by decide +kernel
theorem dX9_readLetters_47 : decode cX9_readLetters 47 = .ok (.iinc 2 1, 3) := by decide +kernel
theorem dX9_readLetters_50 : decode cX9_readLetters 50 = .ok (.goto (-43), 3) := by decide +kernel
theorem dX9_readLetters_53 : decode cX9_readLetters 53 = .ok (.return_, 1) := by decide +kernel
theorem dX9_shorten_0 : decode cX9_shorten 0 = .ok (.aload_n 0, 1) := by decide +kernel
theorem dX9_shorten_1 : decode cX9_shorten 1 = .ok (.invokevirtual 71, 3) := by decide +kernel
theorem dX9_shorten_4 : decode cX9_shorten 4 = .ok (.ifCond .eq 4, 3) := by decide +kernel
theorem dX9_shorten_7 : decode cX9_shorten 7 = .ok (.return_, 1) := by decide +kernel
theorem dX9_shorten_8 : decode cX9_shorten 8 = .ok (.aload_n 0, 1) := by decide +kernel
theorem dX9_shorten_9 : decode cX9_shorten 9 = .ok (.getfield 22, 3) := by decide +kernel
theorem dX9_shorten_12 : decode cX9_shorten 12 = .ok (.iconst 5, 1) := by decide +kernel
theorem dX9_shorten_13 : decode cX9_shorten 13 = .ok (.if_icmp .lt 38, 3) := by decide +kernel
theorem dX9_shorten_16 : decode cX9_shorten 16 = .ok (.aload_n 0, 1) := by decide +kernel
theorem dX9_shorten_17 : decode cX9_shorten 17 = .ok (.ldc 75, 2) := by decide +kernel
theorem dX9_shorten_19 : decode cX9_shorten 19 = .ok (.invokevirtual 77, 3) := by decide +kernel
theorem dX9_shorten_22 : decode cX9_shorten 22 = .ok (.ifCond .eq 29, 3) := by decide +kernel
theorem dX9_shorten_25 : decode cX9_shorten 25 = .ok (.aload_n 0, 1) := by decide +kernel
theorem dX9_shorten_26 : decode cX9_shorten 26 = .ok (.dup, 1) := by decide +kernel
theorem dX9_shorten_27 : decode cX9_shorten 27 = .ok (.getfield 22, 3) := by decide +kernel
theorem dX9_shorten_30 : decode cX9_shorten 30 = .ok (.iconst 2, 1) := by decide +kernel
theorem dX9_shorten_31 : decode cX9_shorten 31 = .ok (.isub, 1) := by decide +kernel
theorem dX9_shorten_32 : decode cX9_shorten 32 = .ok (.putfield 22, 3) := by decide +kernel
theorem dX9_shorten_35 : decode cX9_shorten 35 = .ok (.aload_n 0, 1) := by decide +kernel
theorem dX9_shorten_36 : decode cX9_shorten 36 = .ok (.getfield 15, 3) := by decide +kernel
theorem dX9_shorten_39 : decode cX9_shorten 39 = .ok (.aload_n 0, 1) := by decide +kernel
theorem dX9_shorten_40 : decode cX9_shorten 40 = .ok (.getfield 22, 3) := by decide +kernel
theorem dX9_shorten_43 : decode cX9_shorten 43 = .ok (.iconst 1, 1) := by decide +kernel
theorem dX9_shorten_44 : decode cX9_shorten 44 = .ok (.isub, 1) := by decide +kernel
theorem dX9_shorten_45 : decode cX9_shorten 45 = .ok (.bipush 121, 2) := by decide +kernel
theorem dX9_shorten_47 : decode cX9_shorten 47 = .ok (.bastore, 1) := by decide +kernel
theorem dX9_shorten_48 : decode cX9_shorten 48 = .ok (.goto 118, 3) := by decide +kernel
theorem dX9_shorten_51 : decode cX9_shorten 51 = .ok (.aload_n 0, 1) := by decide +kernel
theorem dX9_shorten_52 : decode cX9_shorten 52 = .ok (.getfield 22, 3) := by decide +kernel
theorem dX9_shorten_55 : decode cX9_shorten 55 = .ok (.bipush 6, 2) := by decide +kernel
theorem dX9_shorten_57 : decode cX9_shorten 57 = .ok (.if_icmp .lt 25, 3) := by decide +kernel
theorem dX9_shorten_60 : decode cX9_shorten 60 = .ok (.aload_n 0, 1) := by decide +kernel
theorem dX9_shorten_61 : decode cX9_shorten 61 = .ok (.ldc 81, 2) := by decide +kernel
theorem dX9_shorten_63 : decode cX9_shorten 63 = .ok (.invokevirtual 77, 3) := by decide +kernel
theorem dX9_shorten_66 : decode cX9_shorten 66 = .ok (.ifCond .eq 16, 3) := by decide +kernel
theorem dX9_shorten_69 : decode cX9_shorten 69 = .ok (.aload_n 0, 1) := by decide +kernel
theorem dX9_shorten_70 : decode cX9_shorten 70 = .ok (.dup, 1) := by decide +kernel
theorem dX9_shorten_71 : decode cX9_shorten 71 = .ok (.getfield 22, 3) := by decide +kernel
theorem dX9_shorten_74 : decode cX9_shorten 74 = .ok (.iconst 3, 1) := by decide +kernel
theorem dX9_shorten_75 : decode cX9_shorten 75 = .ok (.isub, 1) := by decide +kernel
theorem dX9_shorten_76 : decode cX9_shorten 76 = .ok (.putfield 22, 3) := by decide +kernel
theorem dX9_shorten_79 : decode cX9_shorten 79 = .ok (.goto 87, 3) := by decide +kernel
theorem dX9_shorten_82 : decode cX9_shorten 82 = .ok (.aload_n 0, 1) := by decide +kernel
theorem dX9_shorten_83 : decode cX9_shorten 83 = .ok (.getfield 22, 3) := by decide +kernel
theorem dX9_shorten_86 : decode cX9_shorten 86 = .ok (.iconst 5, 1) := by decide +kernel
theorem dX9_shorten_87 : decode cX9_shorten 87 = .ok (.if_icmp .lt 25, 3) := by decide +kernel
theorem dX9_shorten_90 : decode cX9_shorten 90 = .ok (.aload_n 0, 1) := by decide +kernel
theorem dX9_shorten_91 : decode cX9_shorten 91 = .ok (.ldc 83, 2) := by decide +kernel
theorem dX9_shorten_93 : decode cX9_shorten 93 = .ok (.invokevirtual 77, 3) := by decide +kernel
theorem dX9_shorten_96 : decode cX9_shorten 96 = .ok (.ifCond .eq 16, 3) := by decide +kernel
theorem dX9_shorten_99 : decode cX9_shorten 99 = .ok (.aload_n 0, 1) := by decide +kernel
theorem dX9_shorten_100 : decode cX9_shorten 100 = .ok (.dup, 1) := by decide +kernel
theorem dX9_shorten_101 : decode cX9_shorten 101 = .ok (.getfield 22, 3) := by decide +kernel
theorem dX9_shorten_104 : decode cX9_shorten 104 = .ok (.iconst 2, 1) := by decide +kernel
theorem dX9_shorten_105 : decode cX9_shorten 105 = .ok (.isub, 1) := by decide +kernel
theorem dX9_shorten_106 : decode cX9_shorten 106 = .ok (.putfield 22, 3) := by decide +kernel
theorem dX9_shorten_109 : decode cX9_shorten 109 = .ok (.goto 57, 3) := by decide +kernel
theorem dX9_shorten_112 : decode cX9_shorten 112 = .ok (.aload_n 0, 1) := by decide +kernel
theorem dX9_shorten_113 : decode cX9_shorten 113 = .ok (.getfield 22, 3) := by decide +kernel
theorem dX9_shorten_116 : decode cX9_shorten 116 = .ok (.iconst 4, 1) := by decide +kernel
theorem dX9_shorten_117 : decode cX9_shorten 117 = .ok (.if_icmp .lt 49, 3) := by decide +kernel
theorem dX9_shorten_120 : decode cX9_shorten 120 = .ok (.aload_n 0, 1) := by decide +kernel
theorem dX9_shorten_121 : decode cX9_shorten 121 = .ok (.ldc 85, 2) := by decide +kernel
theorem dX9_shorten_123 : decode cX9_shorten 123 = .ok (.invokevirtual 77, 3) := by decide +kernel
theorem dX9_shorten_126 : decode cX9_shorten 126 = .ok (.ifCond .eq 40, 3) := by decide +kernel
theorem dX9_shorten_129 : decode cX9_shorten 129 = .ok (.aload_n 0, 1) := by decide +kernel
theorem dX9_shorten_130 : decode cX9_shorten 130 = .ok (.ldc 87, 2) := by decide +kernel
theorem dX9_shorten_132 : decode cX9_shorten 132 = .ok (.invokevirtual 77, 3) := by decide +kernel
theorem dX9_shorten_135 : decode cX9_shorten 135 = .ok (.ifCond .ne 31, 3) := by decide +kernel
theorem dX9_shorten_138 : decode cX9_shorten 138 = .ok (.aload_n 0, 1) := by decide +kernel
theorem dX9_shorten_139 : decode cX9_shorten 139 = .ok (.ldc 89, 2) := by decide +kernel
theorem dX9_shorten_141 : decode cX9_shorten 141 = .ok (.invokevirtual 77, 3) := by decide +kernel
theorem dX9_shorten_144 : decode cX9_shorten 144 = .ok (.ifCond .ne 22, 3) := by decide +kernel
theorem dX9_shorten_147 : decode cX9_shorten 147 = .ok (.aload_n 0, 1) := by decide +kernel
theorem dX9_shorten_148 : decode cX9_shorten 148 = .ok (.ldc 91, 2) := by decide +kernel
theorem dX9_shorten_150 : decode cX9_shorten 150 = .ok (.invokevirtual 77, 3) := by decide +kernel
theorem dX9_shorten_153 : decode cX9_shorten 153 = .ok (.ifCond .ne 13, 3) := by decide +kernel
theorem dX9_shorten_156 : decode cX9_shorten 156 = .ok (.aload_n 0, 1) := by decide +kernel
theorem dX9_shorten_157 : decode cX9_shorten 157 = .ok (.dup, 1) := by decide +kernel
theorem dX9_shorten_158 : decode cX9_shorten 158 = .ok (.getfield 22, 3) := by decide +kernel
theorem dX9_shorten_161 : decode cX9_shorten 161 = .ok (.iconst 1, 1) := by decide +kernel
theorem dX9_shorten_162 : decode cX9_shorten 162 = .ok (.isub, 1) := by decide +kernel
theorem dX9_shorten_163 : decode cX9_shorten 163 = .ok (.putfield 22, 3) := by decide +kernel
theorem dX9_shorten_166 : decode cX9_shorten 166 = .ok (.return_, 1) := by decide +kernel
theorem dX9_hasDigit_0 : decode cX9_hasDigit 0 = .ok (.iconst 0, 1) := by decide +kernel
theorem dX9_hasDigit_1 : decode cX9_hasDigit 1 = .ok (.istore_n 1, 1) := by decide +kernel
theorem dX9_hasDigit_2 : decode cX9_hasDigit 2 = .ok (.iload_n 1, 1) := by decide +kernel
theorem dX9_hasDigit_3 : decode cX9_hasDigit 3 = .ok (.aload_n 0, 1) := by decide +kernel
theorem dX9_hasDigit_4 : decode cX9_hasDigit 4 = .ok (.getfield 22, 3) := by decide +kernel
theorem dX9_hasDigit_7 : decode cX9_hasDigit 7 = .ok (.if_icmp .ge 22, 3) := by decide +kernel
theorem dX9_hasDigit_10 : decode cX9_hasDigit 10 = .ok (.aload_n 0, 1) := by decide +kernel
theorem dX9_hasDigit_11 : decode cX9_hasDigit 11 = .ok (.getfield 15, 3) := by decide +kernel
theorem dX9_hasDigit_14 : decode cX9_hasDigit 14 = .ok (.iload_n 1, 1) := by decide +kernel
theorem dX9_hasDigit_15 : decode cX9_hasDigit 15 = .ok (.baload, 1) := by decide +kernel
theorem dX9_hasDigit_16 : decode cX9_hasDigit 16 = .ok (.bipush 57, 2) := by decide +kernel
theorem dX9_hasDigit_18 : decode cX9_hasDigit 18 = .ok (.if_icmp .gt 5, 3) := by decide +kernel
theorem dX9_hasDigit_21 : decode cX9_hasDigit 21 = .ok (.iconst 1, 1) := by decide +kernel
theorem dX9_hasDigit_22 : decode cX9_hasDigit 22 = .ok (.ireturn, 1) := by decide +kernel
theorem dX9_hasDigit_23 : decode cX9_hasDigit 23 = .ok (.iinc 1 1, 3) := by decide +kernel
theorem dX9_hasDigit_26 : decode cX9_hasDigit 26 = .ok (.goto (-24), 3) := by decide +kernel
theorem dX9_hasDigit_29 : decode cX9_hasDigit 29 = .ok (.iconst 0, 1) := by decide +kernel
theorem dX9_hasDigit_30 : decode cX9_hasDigit 30 = .ok (.ireturn, 1) := by decide +kernel
theorem dX9_endsBy_0 : decode cX9_endsBy 0 = .ok (.aload_n 0, 1) := by decide +kernel
theorem dX9_endsBy_1 : decode cX9_endsBy 1 = .ok (.getfield 22, 3) := by decide +kernel
theorem dX9_endsBy_4 : decode cX9_endsBy 4 = .ok (.aload_n 1, 1) := by decide +kernel
theorem dX9_endsBy_5 : decode cX9_endsBy 5 = .ok (.invokevirtual 35, 3) := by decide +kernel
theorem dX9_endsBy_8 : decode cX9_endsBy 8 = .ok (.isub, 1) := by decide +kernel
theorem dX9_endsBy_9 : decode cX9_endsBy 9 = .ok (.istore_n 2, 1) := by decide +kernel
theorem dX9_endsBy_10 : decode cX9_endsBy 10 = .ok (.iload_n 2, 1) := by decide +kernel
theorem dX9_endsBy_11 : decode cX9_endsBy 11 = .ok (.ifCond .ge 5, 3) := by decide +kernel
theorem dX9_endsBy_14 : decode cX9_endsBy 14 = .ok (.iconst 0, 1) := by decide +kernel
theorem dX9_endsBy_15 : decode cX9_endsBy 15 = .ok (.ireturn, 1) := by decide +kernel
theorem dX9_endsBy_16 : decode cX9_endsBy 16 = .ok (.iconst 0, 1) := by decide +kernel
theorem dX9_endsBy_17 : decode cX9_endsBy 17 = .ok (.istore_n 3, 1) := by decide +kernel
theorem dX9_endsBy_18 : decode cX9_endsBy 18 = .ok (.iload_n 3, 1) := by decide +kernel
theorem dX9_endsBy_19 : decode cX9_endsBy 19 = .ok (.aload_n 1, 1) := by decide +kernel
theorem dX9_endsBy_20 : decode cX9_endsBy 20 = .ok (.invokevirtual 35, 3) := by decide +kernel
theorem dX9_endsBy_23 : decode cX9_endsBy 23 = .ok (.if_icmp .ge 27, 3) := by decide +kernel
theorem dX9_endsBy_26 : decode cX9_endsBy 26 = .ok (.aload_n 0, 1) := by decide +kernel
theorem dX9_endsBy_27 : decode cX9_endsBy 27 = .ok (.getfield 15, 3) := by decide +kernel
theorem dX9_endsBy_30 : decode cX9_endsBy 30 = .ok (.iload_n 2, 1) := by decide +kernel
theorem dX9_endsBy_31 : decode cX9_endsBy 31 = .ok (.iload_n 3, 1) := by decide +kernel
theorem dX9_endsBy_32 : decode cX9_endsBy 32 = .ok (.iadd, 1) := by decide +kernel
theorem dX9_endsBy_33 : decode cX9_endsBy 33 = .ok (.baload, 1) := by decide +kernel
theorem dX9_endsBy_34 : decode cX9_endsBy 34 = .ok (.aload_n 1, 1) := by decide +kernel
theorem dX9_endsBy_35 : decode cX9_endsBy 35 = .ok (.iload_n 3, 1) := by decide +kernel
theorem dX9_endsBy_36 : decode cX9_endsBy 36 = .ok (.invokevirtual 40, 3) := by decide +kernel
theorem dX9_endsBy_39 : decode cX9_endsBy 39 = .ok (.if_icmp .eq 5, 3) := by decide +kernel
theorem dX9_endsBy_42 : decode cX9_endsBy 42 = .ok (.iconst 0, 1) := by decide +kernel
theorem dX9_endsBy_43 : decode cX9_endsBy 43 = .ok (.ireturn, 1) := by decide +kernel
theorem dX9_endsBy_44 : decode cX9_endsBy 44 = .ok (.iinc 3 1, 3) := by decide +kernel
theorem dX9_endsBy_47 : decode cX9_endsBy 47 = .ok (.goto (-29), 3) := by decide +kernel
theorem dX9_endsBy_50 : decode cX9_endsBy 50 = .ok (.iconst 1, 1) := by decide +kernel
theorem dX9_endsBy_51 : decode cX9_endsBy 51 = .ok (.ireturn, 1) := by decide +kernel
theorem dX10_init_0 : decode cX10_init 0 = .ok (.aload_n 0, 1) := by decide +kernel
theorem dX10_init_1 : decode cX10_init 1 = .ok (.invokespecial 3, 3) := by decide +kernel
theorem dX10_init_4 : decode cX10_init 4 = .ok (.aload_n 0, 1) := by decide +kernel
theorem dX10_init_5 : decode cX10_init 5 = .ok (.bipush 12, 2) := by decide +kernel
theorem dX10_init_7 : decode cX10_init 7 = .ok (.newarray .byte, 2) := by decide +kernel
theorem dX10_init_9 : decode cX10_init 9 = .ok (.putfield 9, 3) := by decide +kernel
theorem dX10_init_12 : decode cX10_init 12 = .ok (.aload_n 0, 1) := by decide +kernel
theorem dX10_init_13 : decode cX10_init 13 = .ok (.bipush 12, 2) := by decide +kernel
theorem dX10_init_15 : decode cX10_init 15 = .ok (.newarray .byte, 2) := by decide +kernel
theorem dX10_init_17 : decode cX10_init 17 = .ok (.putfield 15, 3) := by decide +kernel
theorem dX10_init_20 : decode cX10_init 20 = .ok (.aload_n 0, 1) := by decide +kernel
theorem dX10_init_21 : decode cX10_init 21 = .ok (.bipush 13, 2) := by decide +kernel
theorem dX10_init_23 : decode cX10_init 23 = .ok (.newarray .int, 2) := by decide +kernel
theorem dX10_init_25 : decode cX10_init 25 = .ok (.putfield 18, 3) := by decide +kernel
theorem dX10_init_28 : decode cX10_init 28 = .ok (.aload_n 0, 1) := by decide +kernel
theorem dX10_init_29 : decode cX10_init 29 = .ok (.iconst 0, 1) := by decide +kernel
theorem dX10_init_30 : decode cX10_init 30 = .ok (.putfield 22, 3) := by decide +kernel
theorem dX10_init_33 : decode cX10_init 33 = .ok (.aload_n 0, 1) := by decide +kernel
theorem dX10_init_34 : decode cX10_init 34 = .ok (.iload_n 1, 1) := by decide +kernel
theorem dX10_init_35 : decode cX10_init 35 = .ok (.putfield 26, 3) := by decide +kernel
theorem dX10_init_38 : decode cX10_init 38 = .ok (.aload_n 0, 1) := by decide +kernel
theorem dX10_init_39 : decode cX10_init 39 = .ok (.iload_n 1, 1) := by decide +kernel
theorem dX10_init_40 : decode cX10_init 40 = .ok (.newarray .long, 2) := by decide +kernel
theorem dX10_init_42 : decode cX10_init 42 = .ok (.putfield 29, 3) := by decide +kernel
theorem dX10_init_45 : decode cX10_init 45 = .ok (.aload_n 0, 1) := by decide +kernel
theorem dX10_init_46 : decode cX10_init 46 = .ok (.iload_n 1, 1) := by decide +kernel
theorem dX10_init_47 : decode cX10_init 47 = .ok (.newarray .int, 2) := by decide +kernel
theorem dX10_init_49 : decode cX10_init 49 = .ok (.putfield 33, 3) := by decide +kernel
theorem dX10_init_52 : decode cX10_init 52 = .ok (.aload_n 0, 1) := by decide +kernel
theorem dX10_init_53 : decode cX10_init 53 = .ok (.iload_n 1, 1) := by decide +kernel
theorem dX10_init_54 : decode cX10_init 54 = .ok (.newarray .int, 2) := by decide +kernel
theorem dX10_init_56 : decode cX10_init 56 = .ok (.putfield 36, 3) := by decide +kernel
theorem dX10_init_59 : decode cX10_init 59 = .ok (.return_, 1) := by decide +kernel
theorem dX10_pack_0 : decode cX10_pack 0 = .ok (.lconst 0, 1) := by decide +kernel
theorem dX10_pack_1 : decode cX10_pack 1 = .ok (.lstore_n 2, 1) := by decide +kernel
theorem dX10_pack_2 : decode cX10_pack 2 = .ok (.iconst 0, 1) := by decide +kernel
theorem dX10_pack_3 : decode cX10_pack 3 = .ok (.istore 4, 2) := by decide +kernel
theorem dX10_pack_5 : decode cX10_pack 5 = .ok (.iload 4, 2) := by decide +kernel
theorem dX10_pack_7 : decode cX10_pack 7 = .ok (.bipush 12, 2) := by decide +kernel
theorem dX10_pack_9 : decode cX10_pack 9 = .ok (.if_icmp .ge 64, 3) := by decide +kernel
theorem dX10_pack_12 : decode cX10_pack 12 = .ok (.lload_n 2, 1) := by decide +kernel
theorem dX10_pack_13 : decode cX10_pack 13 = .ok (.ldc2_w 39, 3) := by decide +kernel
theorem dX10_pack_16 : decode cX10_pack 16 = .ok (.lmul, 1) := by decide +kernel
theorem dX10_pack_17 : decode cX10_pack 17 = .ok (.lstore_n 2, 1) := by decide +kernel
theorem dX10_pack_18 : decode cX10_pack 18 = .ok (.iload 4, 2) := by decide +kernel
theorem dX10_pack_20 : decode cX10_pack 20 = .ok (.iload_n 1, 1) := by decide +kernel
theorem dX10_pack_21 : decode cX10_pack 21 = .ok (.if_icmp .ge 46, 3) := by decide +kernel
theorem dX10_pack_24 : decode cX10_pack 24 = .ok (.iload 4, 2) := by decide +kernel
theorem dX10_pack_26 : decode cX10_pack 26 = .ok (.aload_n 0, 1) := by decide +kernel
theorem dX10_pack_27 : decode cX10_pack 27 = .ok (.arraylength, 1) := by decide +kernel
theorem dX10_pack_28 : decode cX10_pack 28 = .ok (.if_icmp .ge 39, 3) := by decide +kernel
theorem dX10_pack_31 : decode cX10_pack 31 = .ok (.lload_n 2, 1) := by decide +kernel
theorem dX10_pack_32 : decode cX10_pack 32 = .ok (.aload_n 0, 1) := by decide +kernel
theorem dX10_pack_33 : decode cX10_pack 33 = .ok (.iload 4, 2) := by decide +kernel
theorem dX10_pack_35 : decode cX10_pack 35 = .ok (.baload, 1) := by decide +kernel
theorem dX10_pack_36 : decode cX10_pack 36 = .ok (.bipush 97, 2) := by decide +kernel
theorem dX10_pack_38 : decode cX10_pack 38 = .ok (.if_icmp .lt 17, 3) := by decide +kernel
theorem dX10_pack_41 : decode cX10_pack 41 = .ok (.aload_n 0, 1) := by decide +kernel
theorem dX10_pack_42 : decode cX10_pack 42 = .ok (.iload 4, 2) := by decide +kernel
theorem dX10_pack_44 : decode cX10_pack 44 = .ok (.baload, 1) := by decide +kernel
theorem dX10_pack_45 : decode cX10_pack 45 = .ok (.bipush 97, 2) := by decide +kernel
theorem dX10_pack_47 : decode cX10_pack 47 = .ok (.isub, 1) := by decide +kernel
theorem dX10_pack_48 : decode cX10_pack 48 = .ok (.bipush 11, 2) := by decide +kernel
theorem dX10_pack_50 : decode cX10_pack 50 = .ok (.iadd, 1) := by decide +kernel
theorem dX10_pack_51 : decode cX10_pack 51 = .ok (.i2l, 1) := by decide +kernel
theorem dX10_pack_52 : decode cX10_pack 52 = .ok (.goto 13, 3) := by decide +kernel
theorem dX10_pack_55 : decode cX10_pack 55 = .ok (.aload_n 0, 1) := by decide +kernel
theorem dX10_pack_56 : decode cX10_pack 56 = .ok (.iload 4, 2) := by decide +kernel
theorem dX10_pack_58 : decode cX10_pack 58 = .ok (.baload, 1) := by decide +kernel
theorem dX10_pack_59 : decode cX10_pack 59 = .ok (.bipush 48, 2) := by decide +kernel
theorem dX10_pack_61 : decode cX10_pack 61 = .ok (.isub, 1) := by decide +kernel
theorem dX10_pack_62 : decode cX10_pack 62 = .ok (.iconst 1, 1) := by decide +kernel
theorem dX10_pack_63 : decode cX10_pack 63 = .ok (.iadd, 1) := by decide +kernel
theorem dX10_pack_64 : decode cX10_pack 64 = .ok (.i2l, 1) := by decide +kernel
theorem dX10_pack_65 : decode cX10_pack 65 = .ok (.ladd, 1) := by decide +kernel
theorem dX10_pack_66 : decode cX10_pack 66 = .ok (.lstore_n 2, 1) := by decide +kernel
theorem dX10_pack_67 : decode cX10_pack 67 = .ok (.iinc 4 1, 3) := by decide +kernel
theorem dX10_pack_70 : decode cX10_pack 70 = .ok (.goto (-65), 3) := by decide +kernel
theorem dX10_pack_73 : decode cX10_pack 73 = .ok (.lload_n 2, 1) := by decide +kernel
theorem dX10_pack_74 : decode cX10_pack 74 = .ok (.lreturn, 1) := by decide +kernel
theorem dX10_byteOf_0 : decode cX10_byteOf 0 = .ok (.iload_n 2, 1) := by decide +kernel
theorem dX10_byteOf_1 : decode cX10_byteOf 1 = .ok (.ifCond .lt 9, 3) := by decide +kernel
theorem dX10_byteOf_4 : decode cX10_byteOf 4 = .ok (.iload_n 2, 1) := by decide +kernel
theorem dX10_byteOf_5 : decode cX10_byteOf 5 = .ok (.bipush 12, 2) := by decide +kernel
theorem dX10_byteOf_7 : decode cX10_byteOf 7 = .ok (.if_icmp .lt 5, 3) := by decide +kernel
theorem dX10_byteOf_10 : decode cX10_byteOf 10 = .ok (.iconst 0, 1) := by decide +kernel
theorem dX10_byteOf_11 : decode cX10_byteOf 11 = .ok (.ireturn, 1) := by decide +kernel
theorem dX10_byteOf_12 : decode cX10_byteOf 12 = .ok (.lload_n 0, 1) := by decide +kernel
theorem dX10_byteOf_13 : decode cX10_byteOf 13 = .ok (.lstore_n 3, 1) := by decide +kernel
theorem dX10_byteOf_14 : decode cX10_byteOf 14 = .ok (.bipush 11, 2) := by decide +kernel
theorem dX10_byteOf_16 : decode cX10_byteOf 16 = .ok (.istore 5, 2) := by decide +kernel
theorem dX10_byteOf_18 : decode cX10_byteOf 18 = .ok (.iload 5, 2) := by decide +kernel
theorem dX10_byteOf_20 : decode cX10_byteOf 20 = .ok (.iload_n 2, 1) := by decide +kernel
theorem dX10_byteOf_21 : decode cX10_byteOf 21 = .ok (.if_icmp .le 15, 3) := by decide +kernel
theorem dX10_byteOf_24 : decode cX10_byteOf 24 = .ok (.lload_n 3, 1) := by decide +kernel
theorem dX10_byteOf_25 : decode cX10_byteOf 25 = .ok (.ldc2_w 39, 3) := by decide +kernel
theorem dX10_byteOf_28 : decode cX10_byteOf 28 = .ok (.ldiv, 1) := by decide +kernel
theorem dX10_byteOf_29 : decode cX10_byteOf 29 = .ok (.lstore_n 3, 1) := by decide +kernel
theorem dX10_byteOf_30 : decode cX10_byteOf 30 = .ok (.iinc 5 (-1), 3) := by decide +kernel
theorem dX10_byteOf_33 : decode cX10_byteOf 33 = .ok (.goto (-15), 3) := by decide +kernel
theorem dX10_byteOf_36 : decode cX10_byteOf 36 = .ok (.lload_n 3, 1) := by decide +kernel
theorem dX10_byteOf_37 : decode cX10_byteOf 37 = .ok (.ldc2_w 39, 3) := by decide +kernel
theorem dX10_byteOf_40 : decode cX10_byteOf 40 = .ok (.lrem, 1) := by decide +kernel
theorem dX10_byteOf_41 : decode cX10_byteOf 41 = .ok (.l2i, 1) := by decide +kernel
theorem dX10_byteOf_42 : decode cX10_byteOf 42 = .ok (.istore 5, 2) := by decide +kernel
theorem dX10_byteOf_44 : decode cX10_byteOf 44 = .ok (.iload 5, 2) := by decide +kernel
theorem dX10_byteOf_46 : decode cX10_byteOf 46 = .ok (.ifCond .ne 5, 3) := by decide +kernel
theorem dX10_byteOf_49 : decode cX10_byteOf 49 = .ok (.iconst 0, 1) := by decide +kernel
theorem dX10_byteOf_50 : decode cX10_byteOf 50 = .ok (.ireturn, 1) := by decide +kernel
theorem dX10_byteOf_51 : decode cX10_byteOf 51 = .ok (.iload 5, 2) := by decide +kernel
theorem dX10_byteOf_53 : decode cX10_byteOf 53 = .ok (.bipush 10, 2) := by decide +kernel
theorem dX10_byteOf_55 : decode cX10_byteOf 55 = .ok (.if_icmp .le 14, 3) := by decide +kernel
theorem dX10_byteOf_58 : decode cX10_byteOf 58 = .ok (.iload 5, 2) := by decide +kernel
theorem dX10_byteOf_60 : decode cX10_byteOf 60 = .ok (.bipush 11, 2) := by decide +kernel
theorem dX10_byteOf_62 : decode cX10_byteOf 62 = .ok (.isub, 1) := by decide +kernel
theorem dX10_byteOf_63 : decode cX10_byteOf 63 = .ok (.bipush 97, 2) := by decide +kernel
theorem dX10_byteOf_65 : decode cX10_byteOf 65 = .ok (.iadd, 1) := by decide +kernel
theorem dX10_byteOf_66 : decode cX10_byteOf 66 = .ok (.goto 10, 3) := by decide +kernel
theorem dX10_byteOf_69 : decode cX10_byteOf 69 = .ok (.iload 5, 2) := by decide +kernel
theorem dX10_byteOf_71 : decode cX10_byteOf 71 = .ok (.iconst 1, 1) := by decide +kernel
theorem dX10_byteOf_72 : decode cX10_byteOf 72 = .ok (.isub, 1) := by decide +kernel
theorem dX10_byteOf_73 : decode cX10_byteOf 73 = .ok (.bipush 48, 2) := by decide +kernel
theorem dX10_byteOf_75 : decode cX10_byteOf 75 = .ok (.iadd, 1) := by decide +kernel
theorem dX10_byteOf_76 : decode cX10_byteOf 76 = .ok (.ireturn, 1) := by decide +kernel
theorem dX10_behindStart_0 : decode cX10_behindStart 0 = .ok (.lconst 1, 1) := by decide +kernel
theorem dX10_behindStart_1 : decode cX10_behindStart 1 = .ok (.lstore_n 3, 1) := by decide +kernel
theorem dX10_behindStart_2 : decode cX10_behindStart 2 = .ok (.iload_n 2, 1) := by decide +kernel
theorem dX10_behindStart_3 : decode cX10_behindStart 3 = .ok (.istore 5, 2) := by decide +kernel
theorem dX10_behindStart_5 : decode cX10_behindStart 5 = .ok (.iload 5, 2) := by decide +kernel
theorem dX10_behindStart_7 : decode cX10_behindStart 7 = .ok (.bipush 12, 2) := by decide +kernel
theorem dX10_behindStart_9 : decode cX10_behindStart 9 = .ok (.if_icmp .ge 15, 3) := by decide +kernel
theorem dX10_behindStart_12 : decode cX10_behindStart 12 = .ok (.lload_n 3, 1) := by decide +kernel
theorem dX10_behindStart_13 : decode cX10_behindStart 13 = .ok (.ldc2_w 39, 3) := by decide +kernel
theorem dX10_behindStart_16 : decode cX10_behindStart 16 = .ok (.lmul, 1) := by decide +kernel
theorem dX10_behindStart_17 : decode cX10_behindStart 17 = .ok (.lstore_n 3, 1) := by decide +kernel
theorem dX10_behindStart_18 : decode cX10_behindStart 18 = .ok (.iinc 5 1, 3) := by decide +kernel
theorem dX10_behindStart_21 : decode cX10_behindStart 21 = .ok (.goto (-16), 3) := by decide +kernel
theorem dX10_behindStart_24 : decode cX10_behindStart 24 = .ok (.lload_n 0, 1) := by decide +kernel
theorem dX10_behindStart_25 : decode cX10_behindStart 25 = .ok (.lload_n 3, 1) := by decide +kernel
theorem dX10_behindStart_26 : decode cX10_behindStart 26 = .ok (.ladd, 1) := by decide +kernel
theorem dX10_behindStart_27 : decode cX10_behindStart 27 = .ok (.lreturn, 1) := by decide +kernel
theorem dX10_size_0 : decode cX10_size 0 = .ok (.aload_n 0, 1) := by decide +kernel
theorem dX10_size_1 : decode cX10_size 1 = .ok (.getfield 22, 3) := by decide +kernel
theorem dX10_size_4 : decode cX10_size 4 = .ok (.ireturn, 1) := by decide +kernel
theorem dX10_rankAhead_0 : decode cX10_rankAhead 0 = .ok (.iconst 0, 1) := by decide +kernel
theorem dX10_rankAhead_1 : decode cX10_rankAhead 1 = .ok (.istore_n 3, 1) := by decide +kernel
theorem dX10_rankAhead_2 : decode cX10_rankAhead 2 = .ok (.aload_n 0, 1) := by decide +kernel
theorem dX10_rankAhead_3 : decode cX10_rankAhead 3 = .ok (.getfield 22, 3) := by decide +kernel
theorem dX10_rankAhead_6 : decode cX10_rankAhead 6 = .ok (.istore 4, 2) := by decide +kernel
theorem dX10_rankAhead_8 : decode cX10_rankAhead 8 = .ok (.iload_n 3, 1) := by decide +kernel
theorem dX10_rankAhead_9 : decode cX10_rankAhead 9 = .ok (.iload 4, 2) := by decide +kernel
theorem dX10_rankAhead_11 : decode cX10_rankAhead 11 = .ok (.if_icmp .ge 38, 3) := by decide +kernel
theorem dX10_rankAhead_14 : decode cX10_rankAhead 14 = .ok (.iload_n 3, 1) := by decide +kernel
theorem dX10_rankAhead_15 : decode cX10_rankAhead 15 = .ok (.iload 4, 2) := by decide +kernel
theorem dX10_rankAhead_17 : decode cX10_rankAhead 17 = .ok (.iadd, 1) := by decide +kernel
theorem dX10_rankAhead_18 : decode cX10_rankAhead 18 = .ok (.iconst 2, 1) := by decide +kernel
theorem dX10_rankAhead_19 : decode cX10_rankAhead 19 = .ok (.idiv, 1) := by decide +kernel
theorem dX10_rankAhead_20 : decode cX10_rankAhead 20 = .ok (.istore 5, 2) := by decide +kernel
theorem dX10_rankAhead_22 : decode cX10_rankAhead 22 = .ok (.aload_n 0, 1) := by decide +kernel
theorem dX10_rankAhead_23 : decode cX10_rankAhead 23 = .ok (.getfield 29, 3) := by decide +kernel
theorem dX10_rankAhead_26 : decode cX10_rankAhead 26 = .ok (.iload 5, 2) := by decide +kernel
theorem dX10_rankAhead_28 : decode cX10_rankAhead 28 = .ok (.laload, 1) := by decide +kernel
theorem dX10_rankAhead_29 : decode cX10_rankAhead 29 = .ok (.lload_n 1, 1) := by decide +kernel
theorem dX10_rankAhead_30 : decode cX10_rankAhead 30 = .ok (.lcmp, 1) := by decide +kernel
