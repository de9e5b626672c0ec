theorem dX0_init_0 : decode cX0_init 0 = .ok (.aload_n 0, 1) := by decide +kernel
theorem dX0_init_1 : decode cX0_init 1 = .ok (.invokespecial 3, 3) := by decide +kernel
theorem dX0_init_4 : decode cX0_init 4 = .ok (.aload_n 0, 1) := by decide +kernel
theorem dX0_init_5 : decode cX0_init 5 = .ok (.new 9, 3) := by decide +kernel
theorem dX0_init_8 : decode cX0_init 8 = .ok (.dup, 1) := by decide +kernel
theorem dX0_init_9 : decode cX0_init 9 = .ok (.invokespecial 11, 3) := by decide +kernel
theorem dX0_init_12 : decode cX0_init 12 = .ok (.putfield 12, 3) := by decide +kernel
theorem dX0_init_15 : decode cX0_init 15 = .ok (.aload_n 0, 1) := by decide +kernel
theorem dX0_init_16 : decode cX0_init 16 = .ok (.new 9, 3) := by decide +kernel
theorem dX0_init_19 : decode cX0_init 19 = .ok (.dup, 1) := by decide +kernel
theorem dX0_init_20 : decode cX0_init 20 = .ok (.invokespecial 11, 3) := by decide +kernel
theorem dX0_init_23 : decode cX0_init 23 = .ok (.putfield 18, 3) := by decide +kernel
theorem dX0_init_26 : decode cX0_init 26 = .ok (.aload_n 0, 1) := by decide +kernel
theorem dX0_init_27 : decode cX0_init 27 = .ok (.lconst 0, 1) := by decide +kernel
theorem dX0_init_28 : decode cX0_init 28 = .ok (.putfield 21, 3) := by decide +kernel
theorem dX0_init_31 : decode cX0_init 31 = .ok (.aload_n 0, 1) := by decide +kernel
theorem dX0_init_32 : decode cX0_init 32 = .ok (.lconst 0, 1) := by decide +kernel
theorem dX0_init_33 : decode cX0_init 33 = .ok (.putfield 25, 3) := by decide +kernel
theorem dX0_init_36 : decode cX0_init 36 = .ok (.aload_n 0, 1) := by decide +kernel
theorem dX0_init_37 : decode cX0_init 37 = .ok (.iconst (-1), 1) := by decide +kernel
theorem dX0_init_38 : decode cX0_init 38 = .ok (.putfield 28, 3) := by decide +kernel
theorem dX0_init_41 : decode cX0_init 41 = .ok (.aload_n 0, 1) := by decide +kernel
theorem dX0_init_42 : decode cX0_init 42 = .ok (.iconst (-1), 1) := by decide +kernel
theorem dX0_init_43 : decode cX0_init 43 = .ok (.putfield 32, 3) := by decide +kernel
theorem dX0_init_46 : decode cX0_init 46 = .ok (.aload_n 0, 1) := by decide +kernel
theorem dX0_init_47 : decode cX0_init 47 = .ok (.iconst 0, 1) := by decide +kernel
theorem dX0_init_48 : decode cX0_init 48 = .ok (.putfield 35, 3) := by decide +kernel
theorem dX0_init_51 : decode cX0_init 51 = .ok (.aload_n 0, 1) := by decide +kernel
theorem dX0_init_52 : decode cX0_init 52 = .ok (.iconst 0, 1) := by decide +kernel
theorem dX0_init_53 : decode cX0_init 53 = .ok (.putfield 38, 3) := by decide +kernel
theorem dX0_init_56 : decode cX0_init 56 = .ok (.aload_n 0, 1) := by decide +kernel
theorem dX0_init_57 : decode cX0_init 57 = .ok (.iload_n 1, 1) := by decide +kernel
theorem dX0_init_58 : decode cX0_init 58 = .ok (.putfield 41, 3) := by decide +kernel
theorem dX0_init_61 : decode cX0_init 61 = .ok (.aload_n 0, 1) := by decide +kernel
theorem dX0_init_62 : decode cX0_init 62 = .ok (.iload_n 2, 1) := by decide +kernel
theorem dX0_init_63 : decode cX0_init 63 = .ok (.putfield 44, 3) := by decide +kernel
theorem dX0_init_66 : decode cX0_init 66 = .ok (.aload_n 0, 1) := by decide +kernel
theorem dX0_init_67 : decode cX0_init 67 = .ok (.iload_n 3, 1) := by decide +kernel
theorem dX0_init_68 : decode cX0_init 68 = .ok (.putfield 47, 3) := by decide +kernel
theorem dX0_init_71 : decode cX0_init 71 = .ok (.aload_n 0, 1) := by decide +kernel
theorem dX0_init_72 : decode cX0_init 72 = .ok (.iload 4, 2) := by decide +kernel
theorem dX0_init_74 : decode cX0_init 74 = .ok (.putfield 50, 3) := by decide +kernel
theorem dX0_init_77 : decode cX0_init 77 = .ok (.return_, 1) := by decide +kernel
theorem dX0_bit_0 : decode cX0_bit 0 = .ok (.lconst 1, 1) := by decide +kernel
theorem dX0_bit_1 : decode cX0_bit 1 = .ok (.aload_n 0, 1) := by decide +kernel
theorem dX0_bit_2 : decode cX0_bit 2 = .ok (.getfield 41, 3) := by decide +kernel
theorem dX0_bit_5 : decode cX0_bit 5 = .ok (.lshl, 1) := by decide +kernel
theorem dX0_bit_6 : decode cX0_bit 6 = .ok (.lreturn, 1) := by decide +kernel
theorem dX0_isExcludedFrom_0 : decode cX0_isExcludedFrom 0 = .ok (.aload_n 0, 1) := by decide +kernel
theorem dX0_isExcludedFrom_1 : decode cX0_isExcludedFrom 1 = .ok (.getfield 21, 3) := by decide +kernel
theorem dX0_isExcludedFrom_4 : decode cX0_isExcludedFrom 4 = .ok (.aload_n 1, 1) := by decide +kernel
theorem dX0_isExcludedFrom_5 : decode cX0_isExcludedFrom 5 = .ok (.invokevirtual 53, 3) := by decide +kernel
theorem dX0_isExcludedFrom_8 : decode cX0_isExcludedFrom 8 = .ok (.land, 1) := by decide +kernel
theorem dX0_isExcludedFrom_9 : decode cX0_isExcludedFrom 9 = .ok (.lconst 0, 1) := by decide +kernel
theorem dX0_isExcludedFrom_10 : decode cX0_isExcludedFrom 10 = .ok (.lcmp, 1) := by decide +kernel
theorem dX0_isExcludedFrom_11 : decode cX0_isExcludedFrom 11 = .ok (.ifCond .eq 7, 3) := by decide +kernel
theorem dX0_isExcludedFrom_14 : decode cX0_isExcludedFrom 14 = .ok (.iconst 1, 1) := by decide +kernel
theorem dX0_isExcludedFrom_15 : decode cX0_isExcludedFrom 15 = .ok (.goto 4, 3) := by decide +kernel
theorem dX0_isExcludedFrom_18 : decode cX0_isExcludedFrom 18 = .ok (.iconst 0, 1) := by decide +kernel
theorem dX0_isExcludedFrom_19 : decode cX0_isExcludedFrom 19 = .ok (.ireturn, 1) := by decide +kernel
theorem dX0_isLedToBy_0 : decode cX0_isLedToBy 0 = .ok (.aload_n 0, 1) := by decide +kernel
theorem dX0_isLedToBy_1 : decode cX0_isLedToBy 1 = .ok (.getfield 25, 3) := by decide +kernel
theorem dX0_isLedToBy_4 : decode cX0_isLedToBy 4 = .ok (.aload_n 1, 1) := by decide +kernel
theorem dX0_isLedToBy_5 : decode cX0_isLedToBy 5 = .ok (.invokevirtual 53, 3) := by decide +kernel
theorem dX0_isLedToBy_8 : decode cX0_isLedToBy 8 = .ok (.land, 1) := by decide +kernel
theorem dX0_isLedToBy_9 : decode cX0_isLedToBy 9 = .ok (.lconst 0, 1) := by decide +kernel
theorem dX0_isLedToBy_10 : decode cX0_isLedToBy 10 = .ok (.lcmp, 1) := by decide +kernel
theorem dX0_isLedToBy_11 : decode cX0_isLedToBy 11 = .ok (.ifCond .eq 7, 3) := by decide +kernel
theorem dX0_isLedToBy_14 : decode cX0_isLedToBy 14 = .ok (.iconst 1, 1) := by decide +kernel
theorem dX0_isLedToBy_15 : decode cX0_isLedToBy 15 = .ok (.goto 4, 3) := by decide +kernel
theorem dX0_isLedToBy_18 : decode cX0_isLedToBy 18 = .ok (.iconst 0, 1) := by decide +kernel
theorem dX0_isLedToBy_19 : decode cX0_isLedToBy 19 = .ok (.ireturn, 1) := by decide +kernel
theorem dX0_leaderCount_0 : decode cX0_leaderCount 0 = .ok (.aload_n 0, 1) := by decide +kernel
theorem dX0_leaderCount_1 : decode cX0_leaderCount 1 = .ok (.getfield 25, 3) := by decide +kernel
theorem dX0_leaderCount_4 : decode cX0_leaderCount 4 = .ok (.invokestatic 57, 3) := by decide +kernel
theorem dX0_leaderCount_7 : decode cX0_leaderCount 7 = .ok (.ireturn, 1) := by decide +kernel
theorem dX0_meets_0 : decode cX0_meets 0 = .ok (.aload_n 0, 1) := by decide +kernel
theorem dX0_meets_1 : decode cX0_meets 1 = .ok (.getfield 28, 3) := by decide +kernel
theorem dX0_meets_4 : decode cX0_meets 4 = .ok (.aload_n 1, 1) := by decide +kernel
theorem dX0_meets_5 : decode cX0_meets 5 = .ok (.getfield 32, 3) := by decide +kernel
theorem dX0_meets_8 : decode cX0_meets 8 = .ok (.if_icmp .gt 18, 3) := by decide +kernel
theorem dX0_meets_11 : decode cX0_meets 11 = .ok (.aload_n 1, 1) := by decide +kernel
theorem dX0_meets_12 : decode cX0_meets 12 = .ok (.getfield 28, 3) := by decide +kernel
theorem dX0_meets_15 : decode cX0_meets 15 = .ok (.aload_n 0, 1) := by decide +kernel
theorem dX0_meets_16 : decode cX0_meets 16 = .ok (.getfield 32, 3) := by decide +kernel
theorem dX0_meets_19 : decode cX0_meets 19 = .ok (.if_icmp .gt 7, 3) := by decide +kernel
theorem dX0_meets_22 : decode cX0_meets 22 = .ok (.iconst 1, 1) := by decide +kernel
theorem dX0_meets_23 : decode cX0_meets 23 = .ok (.goto 4, 3) := by decide +kernel
theorem dX0_meets_26 : decode cX0_meets 26 = .ok (.iconst 0, 1) := by decide +kernel
theorem dX0_meets_27 : decode cX0_meets 27 = .ok (.ireturn, 1) := by decide +kernel
theorem dX0_placeOf_0 : decode cX0_placeOf 0 = .ok (.iconst 0, 1) := by decide +kernel
theorem dX0_placeOf_1 : decode cX0_placeOf 1 = .ok (.istore_n 2, 1) := by decide +kernel
theorem dX0_placeOf_2 : decode cX0_placeOf 2 = .ok (.iload_n 2, 1) := by decide +kernel
theorem dX0_placeOf_3 : decode cX0_placeOf 3 = .ok (.aload_n 0, 1) := by decide +kernel
theorem dX0_placeOf_4 : decode cX0_placeOf 4 = .ok (.getfield 12, 3) := by decide +kernel
theorem dX0_placeOf_7 : decode cX0_placeOf 7 = .ok (.invokevirtual 63, 3) := by decide +kernel
theorem dX0_placeOf_10 : decode cX0_placeOf 10 = .ok (.if_icmp .ge 29, 3) := by decide +kernel
theorem dX0_placeOf_13 : decode cX0_placeOf 13 = .ok (.aload_n 0, 1) := by decide +kernel
theorem dX0_placeOf_14 : decode cX0_placeOf 14 = .ok (.getfield 12, 3) := by decide +kernel
theorem dX0_placeOf_17 : decode cX0_placeOf 17 = .ok (.iload_n 2, 1) := by decide +kernel
theorem dX0_placeOf_18 : decode cX0_placeOf 18 = .ok (.invokevirtual 67, 3) := by decide +kernel
theorem dX0_placeOf_21 : decode cX0_placeOf 21 = .ok (.checkcast 71, 3) := by decide +kernel
theorem dX0_placeOf_24 : decode cX0_placeOf 24 = .ok (.getfield 73, 3) := by decide +kernel
theorem dX0_placeOf_27 : decode cX0_placeOf 27 = .ok (.aload_n 1, 1) := by decide +kernel
theorem dX0_placeOf_28 : decode cX0_placeOf 28 = .ok (.if_acmp .ne 5, 3) := by decide +kernel
theorem dX0_placeOf_31 : decode cX0_placeOf 31 = .ok (.iload_n 2, 1) := by decide +kernel
theorem dX0_placeOf_32 : decode cX0_placeOf 32 = .ok (.ireturn, 1) := by decide +kernel
theorem dX0_placeOf_33 : decode cX0_placeOf 33 = .ok (.iinc 2 1, 3) := by decide +kernel
theorem dX0_placeOf_36 : decode cX0_placeOf 36 = .ok (.goto (-34), 3) := by decide +kernel
theorem dX0_placeOf_39 : decode cX0_placeOf 39 = .ok (.iconst (-1), 1) := by decide +kernel
theorem dX0_placeOf_40 : decode cX0_placeOf 40 = .ok (.ireturn, 1) := by decide +kernel
theorem dX0_shareOf_0 : decode cX0_shareOf 0 = .ok (.aload_n 0, 1) := by decide +kernel
theorem dX0_shareOf_1 : decode cX0_shareOf 1 = .ok (.aload_n 1, 1) := by decide +kernel
theorem dX0_shareOf_2 : decode cX0_shareOf 2 = .ok (.invokevirtual 77, 3) := by decide +kernel
theorem dX0_shareOf_5 : decode cX0_shareOf 5 = .ok (.istore_n 2, 1) := by decide +kernel
theorem dX0_shareOf_6 : decode cX0_shareOf 6 = .ok (.iload_n 2, 1) := by decide +kernel
theorem dX0_shareOf_7 : decode cX0_shareOf 7 = .ok (.iconst (-1), 1) := by decide +kernel
theorem dX0_shareOf_8 : decode cX0_shareOf 8 = .ok (.if_icmp .ne 7, 3) := by decide +kernel
theorem dX0_shareOf_11 : decode cX0_shareOf 11 = .ok (.iconst 0, 1) := by decide +kernel
theorem dX0_shareOf_12 : decode cX0_shareOf 12 = .ok (.goto 17, 3) := by decide +kernel
theorem dX0_shareOf_15 : decode cX0_shareOf 15 = .ok (.aload_n 0, 1) := by decide +kernel
theorem dX0_shareOf_16 : decode cX0_shareOf 16 = .ok (.getfield 12, 3) := by decide +kernel
theorem dX0_shareOf_19 : decode cX0_shareOf 19 = .ok (.iload_n 2, 1) := by decide +kernel
theorem dX0_shareOf_20 : decode cX0_shareOf 20 = .ok (.invokevirtual 67, 3) := by decide +kernel
theorem dX0_shareOf_23 : decode cX0_shareOf 23 = .ok (.checkcast 71, 3) := by decide +kernel
theorem dX0_shareOf_26 : decode cX0_shareOf 26 = .ok (.getfield 81, 3) := by decide +kernel
theorem dX0_shareOf_29 : decode cX0_shareOf 29 = .ok (.ireturn, 1) := by decide +kernel
theorem dX0_join_0 : decode cX0_join 0 = .ok (.aload_n 0, 1) := by decide +kernel
theorem dX0_join_1 : decode cX0_join 1 = .ok (.aload_n 1, 1) := by decide +kernel
theorem dX0_join_2 : decode cX0_join 2 = .ok (.invokevirtual 77, 3) := by decide +kernel
theorem dX0_join_5 : decode cX0_join 5 = .ok (.istore_n 3, 1) := by decide +kernel
theorem dX0_join_6 : decode cX0_join 6 = .ok (.iload_n 3, 1) := by decide +kernel
theorem dX0_join_7 : decode cX0_join 7 = .ok (.iconst (-1), 1) := by decide +kernel
theorem dX0_join_8 : decode cX0_join 8 = .ok (.if_icmp .eq 12, 3) := by decide +kernel
theorem dX0_join_11 : decode cX0_join 11 = .ok (.aload_n 0, 1) := by decide +kernel
theorem dX0_join_12 : decode cX0_join 12 = .ok (.getfield 12, 3) := by decide +kernel
theorem dX0_join_15 : decode cX0_join 15 = .ok (.iload_n 3, 1) := by decide +kernel
theorem dX0_join_16 : decode cX0_join 16 = .ok (.invokevirtual 84, 3) := by decide +kernel
theorem dX0_join_19 : decode cX0_join 19 = .ok (.pop, 1) := by decide +kernel
theorem dX0_join_20 : decode cX0_join 20 = .ok (.new 71, 3) := by decide +kernel
theorem dX0_join_23 : decode cX0_join 23 = .ok (.dup, 1) := by decide +kernel
theorem dX0_join_24 : decode cX0_join 24 = .ok (.aload_n 1, 1) := by decide +kernel
theorem dX0_join_25 : decode cX0_join 25 = .ok (.iload_n 2, 1) := by decide +kernel
theorem dX0_join_26 : decode cX0_join 26 = .ok (.invokespecial 87, 3) := by decide +kernel
theorem dX0_join_29 : decode cX0_join 29 = .ok (.astore 4, 2) := by decide +kernel
theorem dX0_join_31 : decode cX0_join 31 = .ok (.iconst 0, 1) := by decide +kernel
theorem dX0_join_32 : decode cX0_join 32 = .ok (.istore 5, 2) := by decide +kernel
theorem dX0_join_34 : decode cX0_join 34 = .ok (.iload 5, 2) := by decide +kernel
theorem dX0_join_36 : decode cX0_join 36 = .ok (.aload_n 0, 1) := by decide +kernel
theorem dX0_join_37 : decode cX0_join 37 = .ok (.getfield 12, 3) := by decide +kernel
theorem dX0_join_40 : decode cX0_join 40 = .ok (.invokevirtual 63, 3) := by decide +kernel
theorem dX0_join_43 : decode cX0_join 43 = .ok (.if_icmp .ge 29, 3) := by decide +kernel
theorem dX0_join_46 : decode cX0_join 46 = .ok (.aload_n 0, 1) := by decide +kernel
theorem dX0_join_47 : decode cX0_join 47 = .ok (.getfield 12, 3) := by decide +kernel
theorem dX0_join_50 : decode cX0_join 50 = .ok (.iload 5, 2) := by decide +kernel
theorem dX0_join_52 : decode cX0_join 52 = .ok (.invokevirtual 67, 3) := by decide +kernel
theorem dX0_join_55 : decode cX0_join 55 = .ok (.checkcast 71, 3) := by decide +kernel
theorem dX0_join_58 : decode cX0_join 58 = .ok (.aload 4, 2) := by decide +kernel
theorem dX0_join_60 : decode cX0_join 60 = .ok (.invokevirtual 90, 3) := by decide +kernel
theorem dX0_join_63 : decode cX0_join 63 = .ok (.ifCond .eq 9, 3) := by decide +kernel
theorem dX0_join_66 : decode cX0_join 66 = .ok (.iinc 5 1, 3) := by decide +kernel
theorem dX0_join_69 : decode cX0_join 69 = .ok (.goto (-35), 3) := by decide +kernel
theorem dX0_join_72 : decode cX0_join 72 = .ok (.aload_n 0, 1) := by decide +kernel
theorem dX0_join_73 : decode cX0_join 73 = .ok (.getfield 12, 3) := by decide +kernel
theorem dX0_join_76 : decode cX0_join 76 = .ok (.iload 5, 2) := by decide +kernel
theorem dX0_join_78 : decode cX0_join 78 = .ok (.aload 4, 2) := by decide +kernel
theorem dX0_join_80 : decode cX0_join 80 = .ok (.invokevirtual 94, 3) := by decide +kernel
theorem dX0_join_83 : decode cX0_join 83 = .ok (.return_, 1) := by decide +kernel
theorem dX0_numberOfSource_0 : decode cX0_numberOfSource 0 = .ok (.iconst 0, 1) := by decide +kernel
theorem dX0_numberOfSource_1 : decode cX0_numberOfSource 1 = .ok (.istore_n 2, 1) := by decide +kernel
theorem dX0_numberOfSource_2 : decode cX0_numberOfSource 2 = .ok (.iconst 0, 1) := by decide +kernel
theorem dX0_numberOfSource_3 : decode cX0_numberOfSource 3 = .ok (.istore_n 3, 1) := by decide +kernel
theorem dX0_numberOfSource_4 : decode cX0_numberOfSource 4 = .ok (.iload_n 3, 1) := by decide +kernel
theorem dX0_numberOfSource_5 : decode cX0_numberOfSource 5 = .ok (.aload_n 0, 1) := by decide +kernel
theorem dX0_numberOfSource_6 : decode cX0_numberOfSource 6 = .ok (.getfield 12, 3) := by decide +kernel
theorem dX0_numberOfSource_9 : decode cX0_numberOfSource 9 = .ok (.invokevirtual 63, 3) := by decide +kernel
theorem dX0_numberOfSource_12 : decode cX0_numberOfSource 12 = .ok (.if_icmp .ge 51, 3) := by decide +kernel
theorem dX0_numberOfSource_15 : decode cX0_numberOfSource 15 = .ok (.aload_n 0, 1) := by decide +kernel
theorem dX0_numberOfSource_16 : decode cX0_numberOfSource 16 = .ok (.getfield 12, 3) := by decide +kernel
theorem dX0_numberOfSource_19 : decode cX0_numberOfSource 19 = .ok (.iload_n 3, 1) := by decide +kernel
theorem dX0_numberOfSource_20 : decode cX0_numberOfSource 20 = .ok (.invokevirtual 67, 3) := by decide +kernel
theorem dX0_numberOfSource_23 : decode cX0_numberOfSource 23 = .ok (.checkcast 71, 3) := by decide +kernel
theorem dX0_numberOfSource_26 : decode cX0_numberOfSource 26 = .ok (.astore 4, 2) := by decide +kernel
theorem dX0_numberOfSource_28 : decode cX0_numberOfSource 28 = .ok (.aload_n 0, 1) := by decide +kernel
theorem dX0_numberOfSource_29 : decode cX0_numberOfSource 29 = .ok (.aload 4, 2) := by decide +kernel
theorem dX0_numberOfSource_31 : decode cX0_numberOfSource 31 = .ok (.getfield 73, 3) := by decide +kernel
theorem dX0_numberOfSource_34 : decode cX0_numberOfSource 34 = .ok (.invokevirtual 98, 3) := by decide +kernel
theorem dX0_numberOfSource_37 : decode cX0_numberOfSource 37 = .ok (.ifCond .ne 20, 3) := by decide +kernel
theorem dX0_numberOfSource_40 : decode cX0_numberOfSource 40 = .ok (.iload_n 2, 1) := by decide +kernel
theorem dX0_numberOfSource_41 : decode cX0_numberOfSource 41 = .ok (.iload_n 1, 1) := by decide +kernel
theorem dX0_numberOfSource_42 : decode cX0_numberOfSource 42 = .ok (.if_icmp .ne 12, 3) := by decide +kernel
theorem dX0_numberOfSource_45 : decode cX0_numberOfSource 45 = .ok (.aload 4, 2) := by decide +kernel
theorem dX0_numberOfSource_47 : decode cX0_numberOfSource 47 = .ok (.getfield 73, 3) := by decide +kernel
theorem dX0_numberOfSource_50 : decode cX0_numberOfSource 50 = .ok (.getfield 41, 3) := by decide +kernel
theorem dX0_numberOfSource_53 : decode cX0_numberOfSource 53 = .ok (.ireturn, 1) := by decide +kernel
theorem dX0_numberOfSource_54 : decode cX0_numberOfSource 54 = .ok (.iinc 2 1, 3) := by decide +kernel
theorem dX0_numberOfSource_57 : decode cX0_numberOfSource 57 = .ok (.iinc 3 1, 3) := by decide +kernel
theorem dX0_numberOfSource_60 : decode cX0_numberOfSource 60 = .ok (.goto (-56), 3) := by decide +kernel
theorem dX0_numberOfSource_63 : decode cX0_numberOfSource 63 = .ok (.iconst (-1), 1) := by decide +kernel
theorem dX0_numberOfSource_64 : decode cX0_numberOfSource 64 = .ok (.ireturn, 1) := by decide +kernel
theorem dX0_sumOfShares_0 : decode cX0_sumOfShares 0 = .ok (.iconst 0, 1) := by decide +kernel
theorem dX0_sumOfShares_1 : decode cX0_sumOfShares 1 = .ok (.istore_n 2, 1) := by decide +kernel
theorem dX0_sumOfShares_2 : decode cX0_sumOfShares 2 = .ok (.iconst 0, 1) := by decide +kernel
theorem dX0_sumOfShares_3 : decode cX0_sumOfShares 3 = .ok (.istore_n 3, 1) := by decide +kernel
theorem dX0_sumOfShares_4 : decode cX0_sumOfShares 4 = .ok (.iconst 0, 1) := by decide +kernel
theorem dX0_sumOfShares_5 : decode cX0_sumOfShares 5 = .ok (.istore 4, 2) := by decide +kernel
theorem dX0_sumOfShares_7 : decode cX0_sumOfShares 7 = .ok (.iload 4, 2) := by decide +kernel
theorem dX0_sumOfShares_9 : decode cX0_sumOfShares 9 = .ok (.aload_n 0, 1) := by decide +kernel
theorem dX0_sumOfShares_10 : decode cX0_sumOfShares 10 = .ok (.getfield 12, 3) := by decide +kernel
theorem dX0_sumOfShares_13 : decode cX0_sumOfShares 13 = .ok (.invokevirtual 63, 3) := by decide +kernel
theorem dX0_sumOfShares_16 : decode cX0_sumOfShares 16 = .ok (.if_icmp .ge 51, 3) := by decide +kernel
theorem dX0_sumOfShares_19 : decode cX0_sumOfShares 19 = .ok (.iload_n 3, 1) := by decide +kernel
theorem dX0_sumOfShares_20 : decode cX0_sumOfShares 20 = .ok (.iload_n 1, 1) := by decide +kernel
theorem dX0_sumOfShares_21 : decode cX0_sumOfShares 21 = .ok (.if_icmp .ge 46, 3) := by decide +kernel
theorem dX0_sumOfShares_24 : decode cX0_sumOfShares 24 = .ok (.aload_n 0, 1) := by decide +kernel
theorem dX0_sumOfShares_25 : decode cX0_sumOfShares 25 = .ok (.getfield 12, 3) := by decide +kernel
theorem dX0_sumOfShares_28 : decode cX0_sumOfShares 28 = .ok (.iload 4, 2) := by decide +kernel
theorem dX0_sumOfShares_30 : decode cX0_sumOfShares 30 = .ok (.invokevirtual 67, 3) := by decide +kernel
theorem dX0_sumOfShares_33 : decode cX0_sumOfShares 33 = .ok (.checkcast 71, 3) := by decide +kernel
theorem dX0_sumOfShares_36 : decode cX0_sumOfShares 36 = .ok (.astore 5, 2) := by decide +kernel
theorem dX0_sumOfShares_38 : decode cX0_sumOfShares 38 = .ok (.aload_n 0, 1) := by decide +kernel
theorem dX0_sumOfShares_39 : decode cX0_sumOfShares 39 = .ok (.aload 5, 2) := by decide +kernel
theorem dX0_sumOfShares_41 : decode cX0_sumOfShares 41 = .ok (.getfield 73, 3) := by decide +kernel
theorem dX0_sumOfShares_44 : decode cX0_sumOfShares 44 = .ok (.invokevirtual 98, 3) := by decide +kernel
theorem dX0_sumOfShares_47 : decode cX0_sumOfShares 47 = .ok (.ifCond .ne 14, 3) := by decide +kernel
theorem dX0_sumOfShares_50 : decode cX0_sumOfShares 50 = .ok (.iload_n 2, 1) := by decide +kernel
theorem dX0_sumOfShares_51 : decode cX0_sumOfShares 51 = .ok (.aload 5, 2) := by decide +kernel
theorem dX0_sumOfShares_53 : decode cX0_sumOfShares 53 = .ok (.getfield 81, 3) := by decide +kernel
theorem dX0_sumOfShares_56 : decode cX0_sumOfShares 56 = .ok (.iadd, 1) := by decide +kernel
theorem dX0_sumOfShares_57 : decode cX0_sumOfShares 57 = .ok (.istore_n 2, 1) := by decide +kernel
theorem dX0_sumOfShares_58 : decode cX0_sumOfShares 58 = .ok (.iinc 3 1, 3) := by decide +kernel
theorem dX0_sumOfShares_61 : decode cX0_sumOfShares 61 = .ok (.iinc 4 1, 3) := by decide +kernel
theorem dX0_sumOfShares_64 : decode cX0_sumOfShares 64 = .ok (.goto (-57), 3) := by decide +kernel
theorem dX0_sumOfShares_67 : decode cX0_sumOfShares 67 = .ok (.iload_n 2, 1) := by decide +kernel
theorem dX0_sumOfShares_68 : decode cX0_sumOfShares 68 = .ok (.ireturn, 1) := by decide +kernel
theorem dX0_delayByAllSources_0 : decode cX0_delayByAllSources 0 = .ok (.aload_n 0, 1) := by decide +kernel
theorem dX0_delayByAllSources_1 : decode cX0_delayByAllSources 1 = .ok (.iload_n 1, 1) := by decide +kernel
theorem dX0_delayByAllSources_2 : decode cX0_delayByAllSources 2 = .ok (.iconst 0, 1) := by decide +kernel
theorem dX0_delayByAllSources_3 : decode cX0_delayByAllSources 3 = .ok (.invokevirtual 102, 3) := by decide +kernel
theorem dX0_delayByAllSources_6 : decode cX0_delayByAllSources 6 = .ok (.ireturn, 1) := by decide +kernel
theorem dX0_delayByMeetingSources_0 : decode cX0_delayByMeetingSources 0 = .ok (.aload_n 0, 1) := by decide +kernel
theorem dX0_delayByMeetingSources_1 : decode cX0_delayByMeetingSources 1 = .ok (.iload_n 1, 1) := by decide +kernel
theorem dX0_delayByMeetingSources_2 : decode cX0_delayByMeetingSources 2 = .ok (.iconst 1, 1) := by decide +kernel
theorem dX0_delayByMeetingSources_3 : decode cX0_delayByMeetingSources 3 = .ok (.invokevirtual 102, 3) := by decide +kernel
theorem dX0_delayByMeetingSources_6 : decode cX0_delayByMeetingSources 6 = .ok (.ireturn, 1) := by decide +kernel
theorem dX0_sumOfDelays_0 : decode cX0_sumOfDelays 0 = .ok (.iconst 0, 1) := by decide +kernel
theorem dX0_sumOfDelays_1 : decode cX0_sumOfDelays 1 = .ok (.istore_n 3, 1) := by decide +kernel
theorem dX0_sumOfDelays_2 : decode cX0_sumOfDelays 2 = .ok (.iconst 0, 1) := by decide +kernel
theorem dX0_sumOfDelays_3 : decode cX0_sumOfDelays 3 = .ok (.istore 4, 2) := by decide +kernel
theorem dX0_sumOfDelays_5 : decode cX0_sumOfDelays 5 = .ok (.iconst 0, 1) := by decide +kernel
theorem dX0_sumOfDelays_6 : decode cX0_sumOfDelays 6 = .ok (.istore 5, 2) := by decide +kernel
theorem dX0_sumOfDelays_8 : decode cX0_sumOfDelays 8 = .ok (.iload 5, 2) := by decide +kernel
theorem dX0_sumOfDelays_10 : decode cX0_sumOfDelays 10 = .ok (.aload_n 0, 1) := by decide +kernel
theorem dX0_sumOfDelays_11 : decode cX0_sumOfDelays 11 = .ok (.getfield 12, 3) := by decide +kernel
theorem dX0_sumOfDelays_14 : decode cX0_sumOfDelays 14 = .ok (.invokevirtual 63, 3) := by decide +kernel
theorem dX0_sumOfDelays_17 : decode cX0_sumOfDelays 17 = .ok (.if_icmp .ge 68, 3) := by decide +kernel
theorem dX0_sumOfDelays_20 : decode cX0_sumOfDelays 20 = .ok (.iload 4, 2) := by decide +kernel
theorem dX0_sumOfDelays_22 : decode cX0_sumOfDelays 22 = .ok (.iload_n 1, 1) := by decide +kernel
theorem dX0_sumOfDelays_23 : decode cX0_sumOfDelays 23 = .ok (.if_icmp .ge 62, 3) := by decide +kernel
theorem dX0_sumOfDelays_26 : decode cX0_sumOfDelays 26 = .ok (.aload_n 0, 1) := by decide +kernel
theorem dX0_sumOfDelays_27 : decode cX0_sumOfDelays 27 = .ok (.getfield 12, 3) := by decide +kernel
theorem dX0_sumOfDelays_30 : decode cX0_sumOfDelays 30 = .ok (.iload 5, 2) := by decide +kernel
theorem dX0_sumOfDelays_32 : decode cX0_sumOfDelays 32 = .ok (.invokevirtual 67, 3) := by decide +kernel
theorem dX0_sumOfDelays_35 : decode cX0_sumOfDelays 35 = .ok (.checkcast 71, 3) := by decide +kernel
theorem dX0_sumOfDelays_38 : decode cX0_sumOfDelays 38 = .ok (.astore 6, 2) := by decide +kernel
theorem dX0_sumOfDelays_40 : decode cX0_sumOfDelays 40 = .ok (.aload_n 0, 1) := by decide +kernel
theorem dX0_sumOfDelays_41 : decode cX0_sumOfDelays 41 = .ok (.aload 6, 2) := by decide +kernel
theorem dX0_sumOfDelays_43 : decode cX0_sumOfDelays 43 = .ok (.getfield 73, 3) := by decide +kernel
theorem dX0_sumOfDelays_46 : decode cX0_sumOfDelays 46 = .ok (.invokevirtual 98, 3) := by decide +kernel
theorem dX0_sumOfDelays_49 : decode cX0_sumOfDelays 49 = .ok (.ifCond .ne 30, 3) := by decide +kernel
theorem dX0_sumOfDelays_52 : decode cX0_sumOfDelays 52 = .ok (.iload_n 2, 1) := by decide +kernel
theorem dX0_sumOfDelays_53 : decode cX0_sumOfDelays 53 = .ok (.ifCond .eq 15, 3) := by decide +kernel
theorem dX0_sumOfDelays_56 : decode cX0_sumOfDelays 56 = .ok (.aload_n 0, 1) := by decide +kernel
theorem dX0_sumOfDelays_57 : decode cX0_sumOfDelays 57 = .ok (.aload 6, 2) := by decide +kernel
theorem dX0_sumOfDelays_59 : decode cX0_sumOfDelays 59 = .ok (.getfield 73, 3) := by decide +kernel
theorem dX0_sumOfDelays_62 : decode cX0_sumOfDelays 62 = .ok (.invokevirtual 106, 3) := by decide +kernel
theorem dX0_sumOfDelays_65 : decode cX0_sumOfDelays 65 = .ok (.ifCond .eq 14, 3) := by decide +kernel
theorem dX0_sumOfDelays_68 : decode cX0_sumOfDelays 68 = .ok (.iload_n 3, 1) := by decide +kernel
theorem dX0_sumOfDelays_69 : decode cX0_sumOfDelays 69 = .ok (.aload 6, 2) := by decide +kernel
theorem dX0_sumOfDelays_71 : decode cX0_sumOfDelays 71 = .ok (.invokevirtual 109, 3) := by decide +kernel
theorem dX0_sumOfDelays_74 : decode cX0_sumOfDelays 74 = .ok (.iadd, 1) := by decide +kernel
theorem dX0_sumOfDelays_75 : decode cX0_sumOfDelays 75 = .ok (.istore_n 3, 1) := by decide +kernel
theorem dX0_sumOfDelays_76 : decode cX0_sumOfDelays 76 = .ok (.iinc 4 1, 3) := by decide +kernel
theorem dX0_sumOfDelays_79 : decode cX0_sumOfDelays 79 = .ok (.iinc 5 1, 3) := by decide +kernel
theorem dX0_sumOfDelays_82 : decode cX0_sumOfDelays 82 = .ok (.goto (-74), 3) := by decide +kernel
theorem dX0_sumOfDelays_85 : decode cX0_sumOfDelays 85 = .ok (.iload_n 3, 1) := by decide +kernel
theorem dX0_sumOfDelays_86 : decode cX0_sumOfDelays 86 = .ok (.ireturn, 1) := by decide +kernel
theorem dX0_workOutSpan_0 : decode cX0_workOutSpan 0 = .ok (.aload_n 0, 1) := by decide +kernel
theorem dX0_workOutSpan_1 : decode cX0_workOutSpan 1 = .ok (.getfield 18, 3) := by decide +kernel
theorem dX0_workOutSpan_4 : decode cX0_workOutSpan 4 = .ok (.invokevirtual 112, 3) := by decide +kernel
theorem dX0_workOutSpan_7 : decode cX0_workOutSpan 7 = .ok (.ifCond .eq 25, 3) := by decide +kernel
theorem dX0_workOutSpan_10 : decode cX0_workOutSpan 10 = .ok (.aload_n 0, 1) := by decide +kernel
theorem dX0_workOutSpan_11 : decode cX0_workOutSpan 11 = .ok (.aload_n 0, 1) := by decide +kernel
theorem dX0_workOutSpan_12 : decode cX0_workOutSpan 12 = .ok (.getfield 44, 3) := by decide +kernel
theorem dX0_workOutSpan_15 : decode cX0_workOutSpan 15 = .ok (.putfield 28, 3) := by decide +kernel
theorem dX0_workOutSpan_18 : decode cX0_workOutSpan 18 = .ok (.aload_n 0, 1) := by decide +kernel
theorem dX0_workOutSpan_19 : decode cX0_workOutSpan 19 = .ok (.aload_n 0, 1) := by decide +kernel
theorem dX0_workOutSpan_20 : decode cX0_workOutSpan 20 = .ok (.getfield 47, 3) := by decide +kernel
theorem dX0_workOutSpan_23 : decode cX0_workOutSpan 23 = .ok (.aload_n 0, 1) := by decide +kernel
theorem dX0_workOutSpan_24 : decode cX0_workOutSpan 24 = .ok (.getfield 35, 3) := by decide +kernel
theorem dX0_workOutSpan_27 : decode cX0_workOutSpan 27 = .ok (.iadd, 1) := by decide +kernel
theorem dX0_workOutSpan_28 : decode cX0_workOutSpan 28 = .ok (.putfield 32, 3) := by decide +kernel
theorem dX0_workOutSpan_31 : decode cX0_workOutSpan 31 = .ok (.return_, 1) := by decide +kernel
theorem dX0_workOutSpan_32 : decode cX0_workOutSpan 32 = .ok (.ldc 118, 2) := by decide +kernel
theorem dX0_workOutSpan_34 : decode cX0_workOutSpan 34 = .ok (.istore_n 1, 1) := by decide +kernel
theorem dX0_workOutSpan_35 : decode cX0_workOutSpan 35 = .ok (.iconst 0, 1) := by decide +kernel
theorem dX0_workOutSpan_36 : decode cX0_workOutSpan 36 = .ok (.istore_n 2, 1) := by decide +kernel
theorem dX0_workOutSpan_37 : decode cX0_workOutSpan 37 = .ok (.iconst 0, 1) := by decide +kernel
theorem dX0_workOutSpan_38 : decode cX0_workOutSpan 38 = .ok (.istore_n 3, 1) := by decide +kernel
theorem dX0_workOutSpan_39 : decode cX0_workOutSpan 39 = .ok (.iload_n 3, 1) := by decide +kernel
theorem dX0_workOutSpan_40 : decode cX0_workOutSpan 40 = .ok (.aload_n 0, 1) := by decide +kernel
theorem dX0_workOutSpan_41 : decode cX0_workOutSpan 41 = .ok (.getfield 18, 3) := by decide +kernel
theorem dX0_workOutSpan_44 : decode cX0_workOutSpan 44 = .ok (.invokevirtual 63, 3) := by decide +kernel
theorem dX0_workOutSpan_47 : decode cX0_workOutSpan 47 = .ok (.if_icmp .ge 60, 3) := by decide +kernel
theorem dX0_workOutSpan_50 : decode cX0_workOutSpan 50 = .ok (.aload_n 0, 1) := by decide +kernel
theorem dX0_workOutSpan_51 : decode cX0_workOutSpan 51 = .ok (.getfield 18, 3) := by decide +kernel
theorem dX0_workOutSpan_54 : decode cX0_workOutSpan 54 = .ok (.iload_n 3, 1) := by decide +kernel
theorem dX0_workOutSpan_55 : decode cX0_workOutSpan 55 = .ok (.invokevirtual 67, 3) := by decide +kernel
theorem dX0_workOutSpan_58 : decode cX0_workOutSpan 58 = .ok (.checkcast 119, 3) := by decide +kernel
theorem dX0_workOutSpan_61 : decode cX0_workOutSpan 61 = .ok (.astore 4, 2) := by decide +kernel
theorem dX0_workOutSpan_63 : decode cX0_workOutSpan 63 = .ok (.iload_n 1, 1) := by decide +kernel
theorem dX0_workOutSpan_64 : decode cX0_workOutSpan 64 = .ok (.aload 4, 2) := by decide +kernel
theorem dX0_workOutSpan_66 : decode cX0_workOutSpan 66 = .ok (.getfield 121, 3) := by decide +kernel
theorem dX0_workOutSpan_69 : decode cX0_workOutSpan 69 = .ok (.getfield 28, 3) := by decide +kernel
theorem dX0_workOutSpan_72 : decode cX0_workOutSpan 72 = .ok (.aload 4, 2) := by decide +kernel
theorem dX0_workOutSpan_74 : decode cX0_workOutSpan 74 = .ok (.getfield 124, 3) := by decide +kernel
theorem dX0_workOutSpan_77 : decode cX0_workOutSpan 77 = .ok (.iadd, 1) := by decide +kernel
theorem dX0_workOutSpan_78 : decode cX0_workOutSpan 78 = .ok (.invokestatic 126, 3) := by decide +kernel
theorem dX0_workOutSpan_81 : decode cX0_workOutSpan 81 = .ok (.istore_n 1, 1) := by decide +kernel
theorem dX0_workOutSpan_82 : decode cX0_workOutSpan 82 = .ok (.iload_n 2, 1) := by decide +kernel
theorem dX0_workOutSpan_83 : decode cX0_workOutSpan 83 = .ok (.aload 4, 2) := by decide +kernel
theorem dX0_workOutSpan_85 : decode cX0_workOutSpan 85 = .ok (.getfield 121, 3) := by decide +kernel
theorem dX0_workOutSpan_88 : decode cX0_workOutSpan 88 = .ok (.getfield 32, 3) := by decide +kernel
theorem dX0_workOutSpan_91 : decode cX0_workOutSpan 91 = .ok (.aload 4, 2) := by decide +kernel
theorem dX0_workOutSpan_93 : decode cX0_workOutSpan 93 = .ok (.getfield 124, 3) := by decide +kernel
theorem dX0_workOutSpan_96 : decode cX0_workOutSpan 96 = .ok (.iadd, 1) := by decide +kernel
theorem dX0_workOutSpan_97 : decode cX0_workOutSpan 97 = .ok (.invokestatic 132, 3) := by decide +kernel
theorem dX0_workOutSpan_100 : decode cX0_workOutSpan 100 = .ok (.istore_n 2, 1) := by decide +kernel
theorem dX0_workOutSpan_101 : decode cX0_workOutSpan 101 = .ok (.iinc 3 1, 3) := by decide +kernel
theorem dX0_workOutSpan_104 : decode cX0_workOutSpan 104 = .ok (.goto (-65), 3) := by decide +kernel
theorem dX0_workOutSpan_107 : decode cX0_workOutSpan 107 = .ok (.aload_n 0, 1) := by decide +kernel
theorem dX0_workOutSpan_108 : decode cX0_workOutSpan 108 = .ok (.iload_n 1, 1) := by decide +kernel
theorem dX0_workOutSpan_109 : decode cX0_workOutSpan 109 = .ok (.putfield 28, 3) := by decide +kernel
theorem dX0_workOutSpan_112 : decode cX0_workOutSpan 112 = .ok (.aload_n 0, 1) := by decide +kernel
theorem dX0_workOutSpan_113 : decode cX0_workOutSpan 113 = .ok (.iload_n 2, 1) := by decide +kernel
theorem dX0_workOutSpan_114 : decode cX0_workOutSpan 114 = .ok (.aload_n 0, 1) := by decide +kernel
theorem dX0_workOutSpan_115 : decode cX0_workOutSpan 115 = .ok (.getfield 35, 3) := by decide +kernel
theorem dX0_workOutSpan_118 : decode cX0_workOutSpan 118 = .ok (.iadd, 1) := by decide +kernel
theorem dX0_workOutSpan_119 : decode cX0_workOutSpan 119 = .ok (.putfield 32, 3) := by decide +kernel
theorem dX0_workOutSpan_122 : decode cX0_workOutSpan 122 = .ok (.return_, 1) := by decide +kernel
theorem dX0_workOutNoise_0 : decode cX0_workOutNoise 0 = .ok (.iconst 0, 1) := by decide +kernel
theorem dX0_workOutNoise_1 : decode cX0_workOutNoise 1 = .ok (.istore_n 3, 1) := by decide +kernel
theorem dX0_workOutNoise_2 : decode cX0_workOutNoise 2 = .ok (.iconst 0, 1) := by decide +kernel
theorem dX0_workOutNoise_3 : decode cX0_workOutNoise 3 = .ok (.istore 4, 2) := by decide +kernel
theorem dX0_workOutNoise_5 : decode cX0_workOutNoise 5 = .ok (.iload 4, 2) := by decide +kernel
theorem dX0_workOutNoise_7 : decode cX0_workOutNoise 7 = .ok (.aload_n 0, 1) := by decide +kernel
theorem dX0_workOutNoise_8 : decode cX0_workOutNoise 8 = .ok (.getfield 18, 3) := by decide +kernel
theorem dX0_workOutNoise_11 : decode cX0_workOutNoise 11 = .ok (.invokevirtual 63, 3) := by decide +kernel
theorem dX0_workOutNoise_14 : decode cX0_workOutNoise 14 = .ok (.if_icmp .ge 40, 3) := by decide +kernel
theorem dX0_workOutNoise_17 : decode cX0_workOutNoise 17 = .ok (.aload_n 0, 1) := by decide +kernel
theorem dX0_workOutNoise_18 : decode cX0_workOutNoise 18 = .ok (.getfield 18, 3) := by decide +kernel
theorem dX0_workOutNoise_21 : decode cX0_workOutNoise 21 = .ok (.iload 4, 2) := by decide +kernel
theorem dX0_workOutNoise_23 : decode cX0_workOutNoise 23 = .ok (.invokevirtual 67, 3) := by decide +kernel
theorem dX0_workOutNoise_26 : decode cX0_workOutNoise 26 = .ok (.checkcast 119, 3) := by decide +kernel
theorem dX0_workOutNoise_29 : decode cX0_workOutNoise 29 = .ok (.astore 5, 2) := by decide +kernel
theorem dX0_workOutNoise_31 : decode cX0_workOutNoise 31 = .ok (.iload_n 3, 1) := by decide +kernel
theorem dX0_workOutNoise_32 : decode cX0_workOutNoise 32 = .ok (.aload_n 2, 1) := by decide +kernel
theorem dX0_workOutNoise_33 : decode cX0_workOutNoise 33 = .ok (.aload 5, 2) := by decide +kernel
theorem dX0_workOutNoise_35 : decode cX0_workOutNoise 35 = .ok (.getfield 121, 3) := by decide +kernel
theorem dX0_workOutNoise_38 : decode cX0_workOutNoise 38 = .ok (.getfield 38, 3) := by decide +kernel
theorem dX0_workOutNoise_41 : decode cX0_workOutNoise 41 = .ok (.invokevirtual 135, 3) := by decide +kernel
theorem dX0_workOutNoise_44 : decode cX0_workOutNoise 44 = .ok (.invokestatic 132, 3) := by decide +kernel
theorem dX0_workOutNoise_47 : decode cX0_workOutNoise 47 = .ok (.istore_n 3, 1) := by decide +kernel
theorem dX0_workOutNoise_48 : decode cX0_workOutNoise 48 = .ok (.iinc 4 1, 3) := by decide +kernel
theorem dX0_workOutNoise_51 : decode cX0_workOutNoise 51 = .ok (.goto (-46), 3) := by decide +kernel
theorem dX0_workOutNoise_54 : decode cX0_workOutNoise 54 = .ok (.aload_n 0, 1) := by decide +kernel
theorem dX0_workOutNoise_55 : decode cX0_workOutNoise 55 = .ok (.aload_n 0, 1) := by decide +kernel
theorem dX0_workOutNoise_56 : decode cX0_workOutNoise 56 = .ok (.iload_n 1, 1) := by decide +kernel
theorem dX0_workOutNoise_57 : decode cX0_workOutNoise 57 = .ok (.invokevirtual 141, 3) := by decide +kernel
theorem dX0_workOutNoise_60 : decode cX0_workOutNoise 60 = .ok (.iload_n 3, 1) := by decide +kernel
theorem dX0_workOutNoise_61 : decode cX0_workOutNoise 61 = .ok (.iadd, 1) := by decide +kernel
theorem dX0_workOutNoise_62 : decode cX0_workOutNoise 62 = .ok (.putfield 38, 3) := by decide +kernel
theorem dX0_workOutNoise_65 : decode cX0_workOutNoise 65 = .ok (.return_, 1) := by decide +kernel
