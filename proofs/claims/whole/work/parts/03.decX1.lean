theorem dX1_init_0 : decode cX1_init 0 = .ok (.aload_n 0, 1) := by decide +kernel
theorem dX1_init_1 : decode cX1_init 1 = .ok (.invokespecial 1, 3) := by decide +kernel
theorem dX1_init_4 : decode cX1_init 4 = .ok (.aload_n 0, 1) := by decide +kernel
theorem dX1_init_5 : decode cX1_init 5 = .ok (.aload_n 1, 1) := by decide +kernel
theorem dX1_init_6 : decode cX1_init 6 = .ok (.putfield 7, 3) := by decide +kernel
theorem dX1_init_9 : decode cX1_init 9 = .ok (.aload_n 0, 1) := by decide +kernel
theorem dX1_init_10 : decode cX1_init 10 = .ok (.iload_n 2, 1) := by decide +kernel
theorem dX1_init_11 : decode cX1_init 11 = .ok (.putfield 13, 3) := by decide +kernel
theorem dX1_init_14 : decode cX1_init 14 = .ok (.return_, 1) := by decide +kernel
theorem dX1_strength_0 : decode cX1_strength 0 = .ok (.aload_n 0, 1) := by decide +kernel
theorem dX1_strength_1 : decode cX1_strength 1 = .ok (.getfield 13, 3) := by decide +kernel
theorem dX1_strength_4 : decode cX1_strength 4 = .ok (.aload_n 0, 1) := by decide +kernel
theorem dX1_strength_5 : decode cX1_strength 5 = .ok (.getfield 7, 3) := by decide +kernel
theorem dX1_strength_8 : decode cX1_strength 8 = .ok (.getfield 17, 3) := by decide +kernel
theorem dX1_strength_11 : decode cX1_strength 11 = .ok (.imul, 1) := by decide +kernel
theorem dX1_strength_12 : decode cX1_strength 12 = .ok (.ireturn, 1) := by decide +kernel
theorem dX1_delay_0 : decode cX1_delay 0 = .ok (.aload_n 0, 1) := by decide +kernel
theorem dX1_delay_1 : decode cX1_delay 1 = .ok (.invokevirtual 22, 3) := by decide +kernel
theorem dX1_delay_4 : decode cX1_delay 4 = .ok (.sipush 1000, 3) := by decide +kernel
theorem dX1_delay_7 : decode cX1_delay 7 = .ok (.idiv, 1) := by decide +kernel
theorem dX1_delay_8 : decode cX1_delay 8 = .ok (.ireturn, 1) := by decide +kernel
theorem dX1_isStrongerThan_0 : decode cX1_isStrongerThan 0 = .ok (.aload_n 0, 1) := by decide +kernel
theorem dX1_isStrongerThan_1 : decode cX1_isStrongerThan 1 = .ok (.invokevirtual 22, 3) := by decide +kernel
theorem dX1_isStrongerThan_4 : decode cX1_isStrongerThan 4 = .ok (.aload_n 1, 1) := by decide +kernel
theorem dX1_isStrongerThan_5 : decode cX1_isStrongerThan 5 = .ok (.invokevirtual 22, 3) := by decide +kernel
theorem dX1_isStrongerThan_8 : decode cX1_isStrongerThan 8 = .ok (.if_icmp .eq 20, 3) := by decide +kernel
theorem dX1_isStrongerThan_11 : decode cX1_isStrongerThan 11 = .ok (.aload_n 0, 1) := by decide +kernel
theorem dX1_isStrongerThan_12 : decode cX1_isStrongerThan 12 = .ok (.invokevirtual 22, 3) := by decide +kernel
theorem dX1_isStrongerThan_15 : decode cX1_isStrongerThan 15 = .ok (.aload_n 1, 1) := by decide +kernel
theorem dX1_isStrongerThan_16 : decode cX1_isStrongerThan 16 = .ok (.invokevirtual 22, 3) := by decide +kernel
theorem dX1_isStrongerThan_19 : decode cX1_isStrongerThan 19 = .ok (.if_icmp .le 7, 3) := by decide +kernel
theorem dX1_isStrongerThan_22 : decode cX1_isStrongerThan 22 = .ok (.iconst 1, 1) := by decide +kernel
theorem dX1_isStrongerThan_23 : decode cX1_isStrongerThan 23 = .ok (.goto 4, 3) := by decide +kernel
theorem dX1_isStrongerThan_26 : decode cX1_isStrongerThan 26 = .ok (.iconst 0, 1) := by decide +kernel
theorem dX1_isStrongerThan_27 : decode cX1_isStrongerThan 27 = .ok (.ireturn, 1) := by decide +kernel
theorem dX1_isStrongerThan_28 : decode cX1_isStrongerThan 28 = .ok (.aload_n 0, 1) := by decide +kernel
theorem dX1_isStrongerThan_29 : decode cX1_isStrongerThan 29 = .ok (.getfield 13, 3) := by decide +kernel
theorem dX1_isStrongerThan_32 : decode cX1_isStrongerThan 32 = .ok (.aload_n 1, 1) := by decide +kernel
theorem dX1_isStrongerThan_33 : decode cX1_isStrongerThan 33 = .ok (.getfield 13, 3) := by decide +kernel
theorem dX1_isStrongerThan_36 : decode cX1_isStrongerThan 36 = .ok (.if_icmp .eq 20, 3) := by decide +kernel
theorem dX1_isStrongerThan_39 : decode cX1_isStrongerThan 39 = .ok (.aload_n 0, 1) := by decide +kernel
theorem dX1_isStrongerThan_40 : decode cX1_isStrongerThan 40 = .ok (.getfield 13, 3) := by decide +kernel
theorem dX1_isStrongerThan_43 : decode cX1_isStrongerThan 43 = .ok (.aload_n 1, 1) := by decide +kernel
theorem dX1_isStrongerThan_44 : decode cX1_isStrongerThan 44 = .ok (.getfield 13, 3) := by decide +kernel
theorem dX1_isStrongerThan_47 : decode cX1_isStrongerThan 47 = .ok (.if_icmp .le 7, 3) := by decide +kernel
theorem dX1_isStrongerThan_50 : decode cX1_isStrongerThan 50 = .ok (.iconst 1, 1) := by decide +kernel
theorem dX1_isStrongerThan_51 : decode cX1_isStrongerThan 51 = .ok (.goto 4, 3) := by decide +kernel
theorem dX1_isStrongerThan_54 : decode cX1_isStrongerThan 54 = .ok (.iconst 0, 1) := by decide +kernel
theorem dX1_isStrongerThan_55 : decode cX1_isStrongerThan 55 = .ok (.ireturn, 1) := by decide +kernel
theorem dX1_isStrongerThan_56 : decode cX1_isStrongerThan 56 = .ok (.aload_n 0, 1) := by decide +kernel
theorem dX1_isStrongerThan_57 : decode cX1_isStrongerThan 57 = .ok (.getfield 7, 3) := by decide +kernel
theorem dX1_isStrongerThan_60 : decode cX1_isStrongerThan 60 = .ok (.getfield 26, 3) := by decide +kernel
theorem dX1_isStrongerThan_63 : decode cX1_isStrongerThan 63 = .ok (.aload_n 1, 1) := by decide +kernel
theorem dX1_isStrongerThan_64 : decode cX1_isStrongerThan 64 = .ok (.getfield 7, 3) := by decide +kernel
theorem dX1_isStrongerThan_67 : decode cX1_isStrongerThan 67 = .ok (.getfield 26, 3) := by decide +kernel
theorem dX1_isStrongerThan_70 : decode cX1_isStrongerThan 70 = .ok (.if_icmp .ge 7, 3) := by decide +kernel
theorem dX1_isStrongerThan_73 : decode cX1_isStrongerThan 73 = .ok (.iconst 1, 1) := by decide +kernel
theorem dX1_isStrongerThan_74 : decode cX1_isStrongerThan 74 = .ok (.goto 4, 3) := by decide +kernel
theorem dX1_isStrongerThan_77 : decode cX1_isStrongerThan 77 = .ok (.iconst 0, 1) := by decide +kernel
theorem dX1_isStrongerThan_78 : decode cX1_isStrongerThan 78 = .ok (.ireturn, 1) := by decide +kernel
