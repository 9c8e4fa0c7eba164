def RZE : String := "java/lang/Exception"
def RZT : String := "java/lang/Throwable"
abbrev cZE_init : ByteArray := prog_16_method_5_code
def yZE_init : MethodName := ⟨RZE, "<init>", "(Ljava/lang/String;Ljava/lang/Throwable;ZZ)V"⟩
abbrev cZT_init : ByteArray := prog_25_method_5_code
def yZT_init : MethodName := ⟨RZT, "<init>", "(Ljava/lang/String;Ljava/lang/Throwable;ZZ)V"⟩
theorem dZE_init_0 : decode cZE_init 0 = .ok (.aload_n 0, 1) := by decide +kernel
theorem dZE_init_1 : decode cZE_init 1 = .ok (.aload_n 1, 1) := by decide +kernel
theorem dZE_init_2 : decode cZE_init 2 = .ok (.aload_n 2, 1) := by decide +kernel
theorem dZE_init_3 : decode cZE_init 3 = .ok (.iload_n 3, 1) := by decide +kernel
theorem dZE_init_4 : decode cZE_init 4 = .ok (.iload 4, 2) := by decide +kernel
theorem dZE_init_6 : decode cZE_init 6 = .ok (.invokespecial 16, 3) := by decide +kernel
theorem dZE_init_9 : decode cZE_init 9 = .ok (.return_, 1) := by decide +kernel
theorem dZT_init_0 : decode cZT_init 0 = .ok (.aload_n 0, 1) := by decide +kernel
theorem dZT_init_1 : decode cZT_init 1 = .ok (.invokespecial 1, 3) := by decide +kernel
theorem dZT_init_4 : decode cZT_init 4 = .ok (.aload_n 0, 1) := by decide +kernel
theorem dZT_init_5 : decode cZT_init 5 = .ok (.aload_n 0, 1) := by decide +kernel
theorem dZT_init_6 : decode cZT_init 6 = .ok (.putfield 7, 3) := by decide +kernel
theorem dZT_init_9 : decode cZT_init 9 = .ok (.aload_n 0, 1) := by decide +kernel
theorem dZT_init_10 : decode cZT_init 10 = .ok (.getstatic 13, 3) := by decide +kernel
theorem dZT_init_13 : decode cZT_init 13 = .ok (.putfield 17, 3) := by decide +kernel
theorem dZT_init_16 : decode cZT_init 16 = .ok (.aload_n 0, 1) := by decide +kernel
theorem dZT_init_17 : decode cZT_init 17 = .ok (.getstatic 20, 3) := by decide +kernel
theorem dZT_init_20 : decode cZT_init 20 = .ok (.putfield 24, 3) := by decide +kernel
theorem dZT_init_23 : decode cZT_init 23 = .ok (.iload 4, 2) := by decide +kernel
theorem dZT_init_25 : decode cZT_init 25 = .ok (.ifCond .eq 11, 3) := by decide +kernel
theorem dZT_init_36 : decode cZT_init 36 = .ok (.aload_n 0, 1) := by decide +kernel
theorem dZT_init_37 : decode cZT_init 37 = .ok (.aconst_null, 1) := by decide +kernel
theorem dZT_init_38 : decode cZT_init 38 = .ok (.putfield 17, 3) := by decide +kernel
theorem dZT_init_41 : decode cZT_init 41 = .ok (.aload_n 0, 1) := by decide +kernel
theorem dZT_init_42 : decode cZT_init 42 = .ok (.aload_n 1, 1) := by decide +kernel
theorem dZT_init_43 : decode cZT_init 43 = .ok (.putfield 31, 3) := by decide +kernel
theorem dZT_init_46 : decode cZT_init 46 = .ok (.aload_n 0, 1) := by decide +kernel
theorem dZT_init_47 : decode cZT_init 47 = .ok (.aload_n 2, 1) := by decide +kernel
theorem dZT_init_48 : decode cZT_init 48 = .ok (.putfield 7, 3) := by decide +kernel
theorem dZT_init_51 : decode cZT_init 51 = .ok (.iload_n 3, 1) := by decide +kernel
theorem dZT_init_52 : decode cZT_init 52 = .ok (.ifCond .ne 8, 3) := by decide +kernel
theorem dZT_init_55 : decode cZT_init 55 = .ok (.aload_n 0, 1) := by decide +kernel
theorem dZT_init_56 : decode cZT_init 56 = .ok (.aconst_null, 1) := by decide +kernel
theorem dZT_init_57 : decode cZT_init 57 = .ok (.putfield 24, 3) := by decide +kernel
theorem dZT_init_60 : decode cZT_init 60 = .ok (.return_, 1) := by decide +kernel
