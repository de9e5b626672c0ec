theorem dX3_init_0 : decode cX3_init 0 = .ok (.aload_n 0, 1) := by decide +kernel
theorem dX3_init_1 : decode cX3_init 1 = .ok (.invokespecial 1, 3) := by decide +kernel
theorem dX3_init_4 : decode cX3_init 4 = .ok (.aload_n 0, 1) := by decide +kernel
theorem dX3_init_5 : decode cX3_init 5 = .ok (.bipush 20, 2) := by decide +kernel
theorem dX3_init_7 : decode cX3_init 7 = .ok (.newarray .int, 2) := by decide +kernel
theorem dX3_init_9 : decode cX3_init 9 = .ok (.putfield 9, 3) := by decide +kernel
theorem dX3_init_12 : decode cX3_init 12 = .ok (.aload_n 0, 1) := by decide +kernel
theorem dX3_init_13 : decode cX3_init 13 = .ok (.bipush 20, 2) := by decide +kernel
theorem dX3_init_15 : decode cX3_init 15 = .ok (.newarray .int, 2) := by decide +kernel
theorem dX3_init_17 : decode cX3_init 17 = .ok (.putfield 13, 3) := by decide +kernel
theorem dX3_init_20 : decode cX3_init 20 = .ok (.aload_n 0, 1) := by decide +kernel
theorem dX3_init_21 : decode cX3_init 21 = .ok (.iconst 0, 1) := by decide +kernel
theorem dX3_init_22 : decode cX3_init 22 = .ok (.putfield 16, 3) := by decide +kernel
theorem dX3_init_25 : decode cX3_init 25 = .ok (.return_, 1) := by decide +kernel
theorem dX3_append_0 : decode cX3_append 0 = .ok (.aload_n 0, 1) := by decide +kernel
theorem dX3_append_1 : decode cX3_append 1 = .ok (.getfield 16, 3) := by decide +kernel
theorem dX3_append_4 : decode cX3_append 4 = .ok (.bipush 20, 2) := by decide +kernel
theorem dX3_append_6 : decode cX3_append 6 = .ok (.if_icmp .ge 25, 3) := by decide +kernel
theorem dX3_append_9 : decode cX3_append 9 = .ok (.aload_n 0, 1) := by decide +kernel
theorem dX3_append_10 : decode cX3_append 10 = .ok (.getfield 16, 3) := by decide +kernel
theorem dX3_append_13 : decode cX3_append 13 = .ok (.ifCond .le 20, 3) := by decide +kernel
theorem dX3_append_16 : decode cX3_append 16 = .ok (.iload_n 1, 1) := by decide +kernel
theorem dX3_append_17 : decode cX3_append 17 = .ok (.aload_n 0, 1) := by decide +kernel
theorem dX3_append_18 : decode cX3_append 18 = .ok (.getfield 9, 3) := by decide +kernel
theorem dX3_append_21 : decode cX3_append 21 = .ok (.aload_n 0, 1) := by decide +kernel
theorem dX3_append_22 : decode cX3_append 22 = .ok (.getfield 16, 3) := by decide +kernel
theorem dX3_append_25 : decode cX3_append 25 = .ok (.iconst 1, 1) := by decide +kernel
theorem dX3_append_26 : decode cX3_append 26 = .ok (.isub, 1) := by decide +kernel
theorem dX3_append_27 : decode cX3_append 27 = .ok (.iaload, 1) := by decide +kernel
theorem dX3_append_28 : decode cX3_append 28 = .ok (.if_icmp .gt 5, 3) := by decide +kernel
theorem dX3_append_31 : decode cX3_append 31 = .ok (.iconst 0, 1) := by decide +kernel
theorem dX3_append_32 : decode cX3_append 32 = .ok (.ireturn, 1) := by decide +kernel
theorem dX3_append_33 : decode cX3_append 33 = .ok (.aload_n 0, 1) := by decide +kernel
theorem dX3_append_34 : decode cX3_append 34 = .ok (.getfield 9, 3) := by decide +kernel
theorem dX3_append_37 : decode cX3_append 37 = .ok (.aload_n 0, 1) := by decide +kernel
theorem dX3_append_38 : decode cX3_append 38 = .ok (.getfield 16, 3) := by decide +kernel
theorem dX3_append_41 : decode cX3_append 41 = .ok (.iload_n 1, 1) := by decide +kernel
theorem dX3_append_42 : decode cX3_append 42 = .ok (.iastore, 1) := by decide +kernel
theorem dX3_append_43 : decode cX3_append 43 = .ok (.aload_n 0, 1) := by decide +kernel
theorem dX3_append_44 : decode cX3_append 44 = .ok (.getfield 13, 3) := by decide +kernel
theorem dX3_append_47 : decode cX3_append 47 = .ok (.aload_n 0, 1) := by decide +kernel
theorem dX3_append_48 : decode cX3_append 48 = .ok (.getfield 16, 3) := by decide +kernel
theorem dX3_append_51 : decode cX3_append 51 = .ok (.iload_n 2, 1) := by decide +kernel
theorem dX3_append_52 : decode cX3_append 52 = .ok (.iastore, 1) := by decide +kernel
theorem dX3_append_53 : decode cX3_append 53 = .ok (.aload_n 0, 1) := by decide +kernel
theorem dX3_append_54 : decode cX3_append 54 = .ok (.dup, 1) := by decide +kernel
theorem dX3_append_55 : decode cX3_append 55 = .ok (.getfield 16, 3) := by decide +kernel
theorem dX3_append_58 : decode cX3_append 58 = .ok (.iconst 1, 1) := by decide +kernel
theorem dX3_append_59 : decode cX3_append 59 = .ok (.iadd, 1) := by decide +kernel
theorem dX3_append_60 : decode cX3_append 60 = .ok (.putfield 16, 3) := by decide +kernel
theorem dX3_append_63 : decode cX3_append 63 = .ok (.iconst 1, 1) := by decide +kernel
theorem dX3_append_64 : decode cX3_append 64 = .ok (.ireturn, 1) := by decide +kernel
theorem dX3_throughOf_0 : decode cX3_throughOf 0 = .ok (.aload_n 0, 1) := by decide +kernel
theorem dX3_throughOf_1 : decode cX3_throughOf 1 = .ok (.getfield 16, 3) := by decide +kernel
theorem dX3_throughOf_4 : decode cX3_throughOf 4 = .ok (.iconst 1, 1) := by decide +kernel
theorem dX3_throughOf_5 : decode cX3_throughOf 5 = .ok (.isub, 1) := by decide +kernel
theorem dX3_throughOf_6 : decode cX3_throughOf 6 = .ok (.istore_n 2, 1) := by decide +kernel
theorem dX3_throughOf_7 : decode cX3_throughOf 7 = .ok (.iload_n 2, 1) := by decide +kernel
theorem dX3_throughOf_8 : decode cX3_throughOf 8 = .ok (.ifCond .lt 26, 3) := by decide +kernel
theorem dX3_throughOf_11 : decode cX3_throughOf 11 = .ok (.aload_n 0, 1) := by decide +kernel
theorem dX3_throughOf_12 : decode cX3_throughOf 12 = .ok (.getfield 9, 3) := by decide +kernel
theorem dX3_throughOf_15 : decode cX3_throughOf 15 = .ok (.iload_n 2, 1) := by decide +kernel
theorem dX3_throughOf_16 : decode cX3_throughOf 16 = .ok (.iaload, 1) := by decide +kernel
theorem dX3_throughOf_17 : decode cX3_throughOf 17 = .ok (.iload_n 1, 1) := by decide +kernel
theorem dX3_throughOf_18 : decode cX3_throughOf 18 = .ok (.if_icmp .gt 10, 3) := by decide +kernel
theorem dX3_throughOf_21 : decode cX3_throughOf 21 = .ok (.aload_n 0, 1) := by decide +kernel
theorem dX3_throughOf_22 : decode cX3_throughOf 22 = .ok (.getfield 13, 3) := by decide +kernel
theorem dX3_throughOf_25 : decode cX3_throughOf 25 = .ok (.iload_n 2, 1) := by decide +kernel
theorem dX3_throughOf_26 : decode cX3_throughOf 26 = .ok (.iaload, 1) := by decide +kernel
theorem dX3_throughOf_27 : decode cX3_throughOf 27 = .ok (.ireturn, 1) := by decide +kernel
theorem dX3_throughOf_28 : decode cX3_throughOf 28 = .ok (.iinc 2 (-1), 3) := by decide +kernel
theorem dX3_throughOf_31 : decode cX3_throughOf 31 = .ok (.goto (-24), 3) := by decide +kernel
theorem dX3_throughOf_34 : decode cX3_throughOf 34 = .ok (.iconst 0, 1) := by decide +kernel
theorem dX3_throughOf_35 : decode cX3_throughOf 35 = .ok (.ireturn, 1) := by decide +kernel
