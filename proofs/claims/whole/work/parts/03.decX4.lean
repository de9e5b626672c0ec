theorem dX4_init_0 : decode cX4_init 0 = .ok (.aload_n 0, 1) := by decide +kernel
theorem dX4_init_1 : decode cX4_init 1 = .ok (.invokespecial 1, 3) := by decide +kernel
theorem dX4_init_4 : decode cX4_init 4 = .ok (.aload_n 0, 1) := by decide +kernel
theorem dX4_init_5 : decode cX4_init 5 = .ok (.new 7, 3) := by decide +kernel
theorem dX4_init_8 : decode cX4_init 8 = .ok (.dup, 1) := by decide +kernel
theorem dX4_init_9 : decode cX4_init 9 = .ok (.invokespecial 9, 3) := by decide +kernel
theorem dX4_init_12 : decode cX4_init 12 = .ok (.putfield 10, 3) := by decide +kernel
theorem dX4_init_15 : decode cX4_init 15 = .ok (.aload_n 0, 1) := by decide +kernel
theorem dX4_init_16 : decode cX4_init 16 = .ok (.new 7, 3) := by decide +kernel
theorem dX4_init_19 : decode cX4_init 19 = .ok (.dup, 1) := by decide +kernel
theorem dX4_init_20 : decode cX4_init 20 = .ok (.invokespecial 9, 3) := by decide +kernel
theorem dX4_init_23 : decode cX4_init 23 = .ok (.putfield 16, 3) := by decide +kernel
theorem dX4_init_26 : decode cX4_init 26 = .ok (.aload_n 0, 1) := by decide +kernel
theorem dX4_init_27 : decode cX4_init 27 = .ok (.new 19, 3) := by decide +kernel
theorem dX4_init_30 : decode cX4_init 30 = .ok (.dup, 1) := by decide +kernel
theorem dX4_init_31 : decode cX4_init 31 = .ok (.invokespecial 21, 3) := by decide +kernel
theorem dX4_init_34 : decode cX4_init 34 = .ok (.putfield 22, 3) := by decide +kernel
theorem dX4_init_37 : decode cX4_init 37 = .ok (.aload_n 0, 1) := by decide +kernel
theorem dX4_init_38 : decode cX4_init 38 = .ok (.bipush 50, 2) := by decide +kernel
theorem dX4_init_40 : decode cX4_init 40 = .ok (.newarray .int, 2) := by decide +kernel
theorem dX4_init_42 : decode cX4_init 42 = .ok (.putfield 26, 3) := by decide +kernel
theorem dX4_init_45 : decode cX4_init 45 = .ok (.aload_n 0, 1) := by decide +kernel
theorem dX4_init_46 : decode cX4_init 46 = .ok (.iconst 0, 1) := by decide +kernel
theorem dX4_init_47 : decode cX4_init 47 = .ok (.putfield 30, 3) := by decide +kernel
theorem dX4_init_50 : decode cX4_init 50 = .ok (.aload_n 0, 1) := by decide +kernel
theorem dX4_init_51 : decode cX4_init 51 = .ok (.iconst 4, 1) := by decide +kernel
theorem dX4_init_52 : decode cX4_init 52 = .ok (.putfield 34, 3) := by decide +kernel
theorem dX4_init_55 : decode cX4_init 55 = .ok (.aload_n 0, 1) := by decide +kernel
theorem dX4_init_56 : decode cX4_init 56 = .ok (.iconst 0, 1) := by decide +kernel
theorem dX4_init_57 : decode cX4_init 57 = .ok (.putfield 37, 3) := by decide +kernel
theorem dX4_init_60 : decode cX4_init 60 = .ok (.aload_n 0, 1) := by decide +kernel
theorem dX4_init_61 : decode cX4_init 61 = .ok (.iconst 0, 1) := by decide +kernel
theorem dX4_init_62 : decode cX4_init 62 = .ok (.putfield 40, 3) := by decide +kernel
theorem dX4_init_65 : decode cX4_init 65 = .ok (.aload_n 0, 1) := by decide +kernel
theorem dX4_init_66 : decode cX4_init 66 = .ok (.iconst 0, 1) := by decide +kernel
theorem dX4_init_67 : decode cX4_init 67 = .ok (.putfield 43, 3) := by decide +kernel
theorem dX4_init_70 : decode cX4_init 70 = .ok (.return_, 1) := by decide +kernel
theorem dX4_net_0 : decode cX4_net 0 = .ok (.iload_n 2, 1) := by decide +kernel
theorem dX4_net_1 : decode cX4_net 1 = .ok (.iconst 0, 1) := by decide +kernel
theorem dX4_net_2 : decode cX4_net 2 = .ok (.ldc 46, 2) := by decide +kernel
theorem dX4_net_4 : decode cX4_net 4 = .ok (.invokestatic 47, 3) := by decide +kernel
theorem dX4_net_7 : decode cX4_net 7 = .ok (.iload_n 1, 1) := by decide +kernel
theorem dX4_net_8 : decode cX4_net 8 = .ok (.iconst 0, 1) := by decide +kernel
theorem dX4_net_9 : decode cX4_net 9 = .ok (.iload_n 2, 1) := by decide +kernel
theorem dX4_net_10 : decode cX4_net 10 = .ok (.invokestatic 47, 3) := by decide +kernel
theorem dX4_net_13 : decode cX4_net 13 = .ok (.iload_n 3, 1) := by decide +kernel
theorem dX4_net_14 : decode cX4_net 14 = .ok (.iconst 0, 1) := by decide +kernel
theorem dX4_net_15 : decode cX4_net 15 = .ok (.sipush 10000, 3) := by decide +kernel
theorem dX4_net_18 : decode cX4_net 18 = .ok (.invokestatic 47, 3) := by decide +kernel
theorem dX4_net_21 : decode cX4_net 21 = .ok (.aload_n 0, 1) := by decide +kernel
theorem dX4_net_22 : decode cX4_net 22 = .ok (.getfield 10, 3) := by decide +kernel
theorem dX4_net_25 : decode cX4_net 25 = .ok (.invokevirtual 51, 3) := by decide +kernel
theorem dX4_net_28 : decode cX4_net 28 = .ok (.bipush 40, 2) := by decide +kernel
theorem dX4_net_30 : decode cX4_net 30 = .ok (.invokestatic 55, 3) := by decide +kernel
theorem dX4_net_33 : decode cX4_net 33 = .ok (.new 59, 3) := by decide +kernel
theorem dX4_net_36 : decode cX4_net 36 = .ok (.dup, 1) := by decide +kernel
theorem dX4_net_37 : decode cX4_net 37 = .ok (.aload_n 0, 1) := by decide +kernel
theorem dX4_net_38 : decode cX4_net 38 = .ok (.getfield 10, 3) := by decide +kernel
theorem dX4_net_41 : decode cX4_net 41 = .ok (.invokevirtual 51, 3) := by decide +kernel
theorem dX4_net_44 : decode cX4_net 44 = .ok (.iload_n 1, 1) := by decide +kernel
theorem dX4_net_45 : decode cX4_net 45 = .ok (.iload_n 2, 1) := by decide +kernel
theorem dX4_net_46 : decode cX4_net 46 = .ok (.iload_n 3, 1) := by decide +kernel
theorem dX4_net_47 : decode cX4_net 47 = .ok (.invokespecial 61, 3) := by decide +kernel
theorem dX4_net_50 : decode cX4_net 50 = .ok (.astore 4, 2) := by decide +kernel
theorem dX4_net_52 : decode cX4_net 52 = .ok (.aload_n 0, 1) := by decide +kernel
theorem dX4_net_53 : decode cX4_net 53 = .ok (.getfield 10, 3) := by decide +kernel
theorem dX4_net_56 : decode cX4_net 56 = .ok (.aload 4, 2) := by decide +kernel
theorem dX4_net_58 : decode cX4_net 58 = .ok (.invokevirtual 64, 3) := by decide +kernel
theorem dX4_net_61 : decode cX4_net 61 = .ok (.pop, 1) := by decide +kernel
theorem dX4_net_62 : decode cX4_net 62 = .ok (.aload_n 0, 1) := by decide +kernel
theorem dX4_net_63 : decode cX4_net 63 = .ok (.getfield 16, 3) := by decide +kernel
theorem dX4_net_66 : decode cX4_net 66 = .ok (.aload 4, 2) := by decide +kernel
theorem dX4_net_68 : decode cX4_net 68 = .ok (.invokevirtual 64, 3) := by decide +kernel
theorem dX4_net_71 : decode cX4_net 71 = .ok (.pop, 1) := by decide +kernel
theorem dX4_net_72 : decode cX4_net 72 = .ok (.aload 4, 2) := by decide +kernel
theorem dX4_net_74 : decode cX4_net 74 = .ok (.getfield 68, 3) := by decide +kernel
theorem dX4_net_77 : decode cX4_net 77 = .ok (.ireturn, 1) := by decide +kernel
theorem dX4_couple_0 : decode cX4_couple 0 = .ok (.aload_n 0, 1) := by decide +kernel
theorem dX4_couple_1 : decode cX4_couple 1 = .ok (.iload_n 1, 1) := by decide +kernel
theorem dX4_couple_2 : decode cX4_couple 2 = .ok (.invokevirtual 71, 3) := by decide +kernel
theorem dX4_couple_5 : decode cX4_couple 5 = .ok (.astore 4, 2) := by decide +kernel
theorem dX4_couple_7 : decode cX4_couple 7 = .ok (.aload_n 0, 1) := by decide +kernel
theorem dX4_couple_8 : decode cX4_couple 8 = .ok (.iload_n 2, 1) := by decide +kernel
theorem dX4_couple_9 : decode cX4_couple 9 = .ok (.invokevirtual 71, 3) := by decide +kernel
theorem dX4_couple_12 : decode cX4_couple 12 = .ok (.astore 5, 2) := by decide +kernel
theorem dX4_couple_14 : decode cX4_couple 14 = .ok (.iload_n 1, 1) := by decide +kernel
theorem dX4_couple_15 : decode cX4_couple 15 = .ok (.iload_n 2, 1) := by decide +kernel
theorem dX4_couple_16 : decode cX4_couple 16 = .ok (.invokestatic 75, 3) := by decide +kernel
theorem dX4_couple_19 : decode cX4_couple 19 = .ok (.iload_n 3, 1) := by decide +kernel
theorem dX4_couple_20 : decode cX4_couple 20 = .ok (.iconst 1, 1) := by decide +kernel
theorem dX4_couple_21 : decode cX4_couple 21 = .ok (.sipush 1000, 3) := by decide +kernel
theorem dX4_couple_24 : decode cX4_couple 24 = .ok (.invokestatic 47, 3) := by decide +kernel
theorem dX4_couple_27 : decode cX4_couple 27 = .ok (.aload 4, 2) := by decide +kernel
theorem dX4_couple_29 : decode cX4_couple 29 = .ok (.aload 5, 2) := by decide +kernel
theorem dX4_couple_31 : decode cX4_couple 31 = .ok (.invokevirtual 78, 3) := by decide +kernel
theorem dX4_couple_34 : decode cX4_couple 34 = .ok (.istore 6, 2) := by decide +kernel
theorem dX4_couple_36 : decode cX4_couple 36 = .ok (.iload 6, 2) := by decide +kernel
theorem dX4_couple_38 : decode cX4_couple 38 = .ok (.ifCond .ne 22, 3) := by decide +kernel
theorem dX4_couple_41 : decode cX4_couple 41 = .ok (.aload_n 0, 1) := by decide +kernel
theorem dX4_couple_42 : decode cX4_couple 42 = .ok (.getfield 37, 3) := by decide +kernel
theorem dX4_couple_45 : decode cX4_couple 45 = .ok (.bipush 120, 2) := by decide +kernel
theorem dX4_couple_47 : decode cX4_couple 47 = .ok (.invokestatic 55, 3) := by decide +kernel
theorem dX4_couple_50 : decode cX4_couple 50 = .ok (.aload_n 0, 1) := by decide +kernel
theorem dX4_couple_51 : decode cX4_couple 51 = .ok (.dup, 1) := by decide +kernel
theorem dX4_couple_52 : decode cX4_couple 52 = .ok (.getfield 37, 3) := by decide +kernel
theorem dX4_couple_55 : decode cX4_couple 55 = .ok (.iconst 1, 1) := by decide +kernel
theorem dX4_couple_56 : decode cX4_couple 56 = .ok (.iadd, 1) := by decide +kernel
theorem dX4_couple_57 : decode cX4_couple 57 = .ok (.putfield 37, 3) := by decide +kernel
theorem dX4_couple_60 : decode cX4_couple 60 = .ok (.aload 4, 2) := by decide +kernel
theorem dX4_couple_62 : decode cX4_couple 62 = .ok (.aload 5, 2) := by decide +kernel
theorem dX4_couple_64 : decode cX4_couple 64 = .ok (.iload_n 3, 1) := by decide +kernel
theorem dX4_couple_65 : decode cX4_couple 65 = .ok (.invokevirtual 82, 3) := by decide +kernel
theorem dX4_couple_68 : decode cX4_couple 68 = .ok (.aload 5, 2) := by decide +kernel
theorem dX4_couple_70 : decode cX4_couple 70 = .ok (.aload 4, 2) := by decide +kernel
theorem dX4_couple_72 : decode cX4_couple 72 = .ok (.iload_n 3, 1) := by decide +kernel
theorem dX4_couple_73 : decode cX4_couple 73 = .ok (.invokevirtual 82, 3) := by decide +kernel
theorem dX4_couple_76 : decode cX4_couple 76 = .ok (.iload 6, 2) := by decide +kernel
theorem dX4_couple_78 : decode cX4_couple 78 = .ok (.ireturn, 1) := by decide +kernel
theorem dX4_exclude_0 : decode cX4_exclude 0 = .ok (.aload_n 0, 1) := by decide +kernel
theorem dX4_exclude_1 : decode cX4_exclude 1 = .ok (.iload_n 1, 1) := by decide +kernel
theorem dX4_exclude_2 : decode cX4_exclude 2 = .ok (.invokevirtual 71, 3) := by decide +kernel
theorem dX4_exclude_5 : decode cX4_exclude 5 = .ok (.astore_n 3, 1) := by decide +kernel
theorem dX4_exclude_6 : decode cX4_exclude 6 = .ok (.aload_n 0, 1) := by decide +kernel
theorem dX4_exclude_7 : decode cX4_exclude 7 = .ok (.iload_n 2, 1) := by decide +kernel
theorem dX4_exclude_8 : decode cX4_exclude 8 = .ok (.invokevirtual 71, 3) := by decide +kernel
theorem dX4_exclude_11 : decode cX4_exclude 11 = .ok (.astore 4, 2) := by decide +kernel
theorem dX4_exclude_13 : decode cX4_exclude 13 = .ok (.iload_n 1, 1) := by decide +kernel
theorem dX4_exclude_14 : decode cX4_exclude 14 = .ok (.iload_n 2, 1) := by decide +kernel
theorem dX4_exclude_15 : decode cX4_exclude 15 = .ok (.invokestatic 75, 3) := by decide +kernel
theorem dX4_exclude_18 : decode cX4_exclude 18 = .ok (.aload_n 3, 1) := by decide +kernel
theorem dX4_exclude_19 : decode cX4_exclude 19 = .ok (.aload 4, 2) := by decide +kernel
theorem dX4_exclude_21 : decode cX4_exclude 21 = .ok (.invokevirtual 86, 3) := by decide +kernel
theorem dX4_exclude_24 : decode cX4_exclude 24 = .ok (.ifCond .eq 5, 3) := by decide +kernel
theorem dX4_exclude_27 : decode cX4_exclude 27 = .ok (.iconst 0, 1) := by decide +kernel
theorem dX4_exclude_28 : decode cX4_exclude 28 = .ok (.ireturn, 1) := by decide +kernel
theorem dX4_exclude_29 : decode cX4_exclude 29 = .ok (.aload_n 3, 1) := by decide +kernel
theorem dX4_exclude_30 : decode cX4_exclude 30 = .ok (.dup, 1) := by decide +kernel
theorem dX4_exclude_31 : decode cX4_exclude 31 = .ok (.getfield 90, 3) := by decide +kernel
theorem dX4_exclude_34 : decode cX4_exclude 34 = .ok (.aload 4, 2) := by decide +kernel
theorem dX4_exclude_36 : decode cX4_exclude 36 = .ok (.invokevirtual 94, 3) := by decide +kernel
theorem dX4_exclude_39 : decode cX4_exclude 39 = .ok (.lor, 1) := by decide +kernel
theorem dX4_exclude_40 : decode cX4_exclude 40 = .ok (.putfield 90, 3) := by decide +kernel
theorem dX4_exclude_43 : decode cX4_exclude 43 = .ok (.aload 4, 2) := by decide +kernel
theorem dX4_exclude_45 : decode cX4_exclude 45 = .ok (.dup, 1) := by decide +kernel
theorem dX4_exclude_46 : decode cX4_exclude 46 = .ok (.getfield 90, 3) := by decide +kernel
theorem dX4_exclude_49 : decode cX4_exclude 49 = .ok (.aload_n 3, 1) := by decide +kernel
theorem dX4_exclude_50 : decode cX4_exclude 50 = .ok (.invokevirtual 94, 3) := by decide +kernel
theorem dX4_exclude_53 : decode cX4_exclude 53 = .ok (.lor, 1) := by decide +kernel
theorem dX4_exclude_54 : decode cX4_exclude 54 = .ok (.putfield 90, 3) := by decide +kernel
theorem dX4_exclude_57 : decode cX4_exclude 57 = .ok (.aload_n 0, 1) := by decide +kernel
theorem dX4_exclude_58 : decode cX4_exclude 58 = .ok (.dup, 1) := by decide +kernel
theorem dX4_exclude_59 : decode cX4_exclude 59 = .ok (.getfield 40, 3) := by decide +kernel
theorem dX4_exclude_62 : decode cX4_exclude 62 = .ok (.iconst 1, 1) := by decide +kernel
theorem dX4_exclude_63 : decode cX4_exclude 63 = .ok (.iadd, 1) := by decide +kernel
theorem dX4_exclude_64 : decode cX4_exclude 64 = .ok (.putfield 40, 3) := by decide +kernel
theorem dX4_exclude_67 : decode cX4_exclude 67 = .ok (.iconst 1, 1) := by decide +kernel
theorem dX4_exclude_68 : decode cX4_exclude 68 = .ok (.ireturn, 1) := by decide +kernel
theorem dX4_stage_0 : decode cX4_stage 0 = .ok (.aload_n 0, 1) := by decide +kernel
theorem dX4_stage_1 : decode cX4_stage 1 = .ok (.iload_n 1, 1) := by decide +kernel
theorem dX4_stage_2 : decode cX4_stage 2 = .ok (.invokevirtual 71, 3) := by decide +kernel
theorem dX4_stage_5 : decode cX4_stage 5 = .ok (.astore 4, 2) := by decide +kernel
theorem dX4_stage_7 : decode cX4_stage 7 = .ok (.aload_n 0, 1) := by decide +kernel
theorem dX4_stage_8 : decode cX4_stage 8 = .ok (.iload_n 2, 1) := by decide +kernel
theorem dX4_stage_9 : decode cX4_stage 9 = .ok (.invokevirtual 71, 3) := by decide +kernel
theorem dX4_stage_12 : decode cX4_stage 12 = .ok (.astore 5, 2) := by decide +kernel
theorem dX4_stage_14 : decode cX4_stage 14 = .ok (.iload_n 1, 1) := by decide +kernel
theorem dX4_stage_15 : decode cX4_stage 15 = .ok (.iload_n 2, 1) := by decide +kernel
theorem dX4_stage_16 : decode cX4_stage 16 = .ok (.invokestatic 75, 3) := by decide +kernel
theorem dX4_stage_19 : decode cX4_stage 19 = .ok (.iload_n 3, 1) := by decide +kernel
theorem dX4_stage_20 : decode cX4_stage 20 = .ok (.iconst 0, 1) := by decide +kernel
theorem dX4_stage_21 : decode cX4_stage 21 = .ok (.ldc 98, 2) := by decide +kernel
theorem dX4_stage_23 : decode cX4_stage 23 = .ok (.invokestatic 47, 3) := by decide +kernel
theorem dX4_stage_26 : decode cX4_stage 26 = .ok (.aload_n 0, 1) := by decide +kernel
theorem dX4_stage_27 : decode cX4_stage 27 = .ok (.getfield 43, 3) := by decide +kernel
theorem dX4_stage_30 : decode cX4_stage 30 = .ok (.bipush 80, 2) := by decide +kernel
theorem dX4_stage_32 : decode cX4_stage 32 = .ok (.invokestatic 55, 3) := by decide +kernel
theorem dX4_stage_35 : decode cX4_stage 35 = .ok (.aload 4, 2) := by decide +kernel
theorem dX4_stage_37 : decode cX4_stage 37 = .ok (.aload 5, 2) := by decide +kernel
theorem dX4_stage_39 : decode cX4_stage 39 = .ok (.invokevirtual 99, 3) := by decide +kernel
theorem dX4_stage_42 : decode cX4_stage 42 = .ok (.ifCond .eq 5, 3) := by decide +kernel
theorem dX4_stage_45 : decode cX4_stage 45 = .ok (.iconst (-1), 1) := by decide +kernel
theorem dX4_stage_46 : decode cX4_stage 46 = .ok (.ireturn, 1) := by decide +kernel
theorem dX4_stage_47 : decode cX4_stage 47 = .ok (.aload 5, 2) := by decide +kernel
theorem dX4_stage_49 : decode cX4_stage 49 = .ok (.getfield 102, 3) := by decide +kernel
theorem dX4_stage_52 : decode cX4_stage 52 = .ok (.new 105, 3) := by decide +kernel
theorem dX4_stage_55 : decode cX4_stage 55 = .ok (.dup, 1) := by decide +kernel
theorem dX4_stage_56 : decode cX4_stage 56 = .ok (.aload 4, 2) := by decide +kernel
theorem dX4_stage_58 : decode cX4_stage 58 = .ok (.iload_n 3, 1) := by decide +kernel
theorem dX4_stage_59 : decode cX4_stage 59 = .ok (.invokespecial 107, 3) := by decide +kernel
theorem dX4_stage_62 : decode cX4_stage 62 = .ok (.invokevirtual 64, 3) := by decide +kernel
theorem dX4_stage_65 : decode cX4_stage 65 = .ok (.pop, 1) := by decide +kernel
theorem dX4_stage_66 : decode cX4_stage 66 = .ok (.aload_n 0, 1) := by decide +kernel
theorem dX4_stage_67 : decode cX4_stage 67 = .ok (.aload 4, 2) := by decide +kernel
theorem dX4_stage_69 : decode cX4_stage 69 = .ok (.aload 5, 2) := by decide +kernel
theorem dX4_stage_71 : decode cX4_stage 71 = .ok (.invokevirtual 109, 3) := by decide +kernel
theorem dX4_stage_74 : decode cX4_stage 74 = .ok (.aload_n 0, 1) := by decide +kernel
theorem dX4_stage_75 : decode cX4_stage 75 = .ok (.invokevirtual 113, 3) := by decide +kernel
theorem dX4_stage_78 : decode cX4_stage 78 = .ok (.aload_n 0, 1) := by decide +kernel
theorem dX4_stage_79 : decode cX4_stage 79 = .ok (.dup, 1) := by decide +kernel
theorem dX4_stage_80 : decode cX4_stage 80 = .ok (.getfield 43, 3) := by decide +kernel
theorem dX4_stage_83 : decode cX4_stage 83 = .ok (.iconst 1, 1) := by decide +kernel
theorem dX4_stage_84 : decode cX4_stage 84 = .ok (.iadd, 1) := by decide +kernel
theorem dX4_stage_85 : decode cX4_stage 85 = .ok (.putfield 43, 3) := by decide +kernel
theorem dX4_stage_88 : decode cX4_stage 88 = .ok (.aload_n 0, 1) := by decide +kernel
theorem dX4_stage_89 : decode cX4_stage 89 = .ok (.getfield 43, 3) := by decide +kernel
theorem dX4_stage_92 : decode cX4_stage 92 = .ok (.iconst 1, 1) := by decide +kernel
theorem dX4_stage_93 : decode cX4_stage 93 = .ok (.isub, 1) := by decide +kernel
theorem dX4_stage_94 : decode cX4_stage 94 = .ok (.ireturn, 1) := by decide +kernel
theorem dX4_keep_0 : decode cX4_keep 0 = .ok (.iload_n 1, 1) := by decide +kernel
theorem dX4_keep_1 : decode cX4_keep 1 = .ok (.iconst 1, 1) := by decide +kernel
theorem dX4_keep_2 : decode cX4_keep 2 = .ok (.bipush 8, 2) := by decide +kernel
theorem dX4_keep_4 : decode cX4_keep 4 = .ok (.invokestatic 47, 3) := by decide +kernel
theorem dX4_keep_7 : decode cX4_keep 7 = .ok (.aload_n 0, 1) := by decide +kernel
theorem dX4_keep_8 : decode cX4_keep 8 = .ok (.getfield 34, 3) := by decide +kernel
theorem dX4_keep_11 : decode cX4_keep 11 = .ok (.istore_n 2, 1) := by decide +kernel
theorem dX4_keep_12 : decode cX4_keep 12 = .ok (.aload_n 0, 1) := by decide +kernel
theorem dX4_keep_13 : decode cX4_keep 13 = .ok (.iload_n 1, 1) := by decide +kernel
theorem dX4_keep_14 : decode cX4_keep 14 = .ok (.putfield 34, 3) := by decide +kernel
theorem dX4_keep_17 : decode cX4_keep 17 = .ok (.iload_n 2, 1) := by decide +kernel
theorem dX4_keep_18 : decode cX4_keep 18 = .ok (.ireturn, 1) := by decide +kernel
theorem dX4_row_0 : decode cX4_row 0 = .ok (.iload_n 1, 1) := by decide +kernel
theorem dX4_row_1 : decode cX4_row 1 = .ok (.iconst 0, 1) := by decide +kernel
theorem dX4_row_2 : decode cX4_row 2 = .ok (.ldc 98, 2) := by decide +kernel
theorem dX4_row_4 : decode cX4_row 4 = .ok (.invokestatic 47, 3) := by decide +kernel
theorem dX4_row_7 : decode cX4_row 7 = .ok (.iload_n 2, 1) := by decide +kernel
theorem dX4_row_8 : decode cX4_row 8 = .ok (.iconst 0, 1) := by decide +kernel
theorem dX4_row_9 : decode cX4_row 9 = .ok (.ldc 98, 2) := by decide +kernel
theorem dX4_row_11 : decode cX4_row 11 = .ok (.invokestatic 47, 3) := by decide +kernel
theorem dX4_row_14 : decode cX4_row 14 = .ok (.aload_n 0, 1) := by decide +kernel
theorem dX4_row_15 : decode cX4_row 15 = .ok (.getfield 22, 3) := by decide +kernel
theorem dX4_row_18 : decode cX4_row 18 = .ok (.getfield 116, 3) := by decide +kernel
theorem dX4_row_21 : decode cX4_row 21 = .ok (.bipush 20, 2) := by decide +kernel
theorem dX4_row_23 : decode cX4_row 23 = .ok (.invokestatic 55, 3) := by decide +kernel
theorem dX4_row_26 : decode cX4_row 26 = .ok (.aload_n 0, 1) := by decide +kernel
theorem dX4_row_27 : decode cX4_row 27 = .ok (.getfield 22, 3) := by decide +kernel
theorem dX4_row_30 : decode cX4_row 30 = .ok (.iload_n 1, 1) := by decide +kernel
theorem dX4_row_31 : decode cX4_row 31 = .ok (.iload_n 2, 1) := by decide +kernel
theorem dX4_row_32 : decode cX4_row 32 = .ok (.invokevirtual 118, 3) := by decide +kernel
theorem dX4_row_35 : decode cX4_row 35 = .ok (.ireturn, 1) := by decide +kernel
theorem dX4_run_0 : decode cX4_run 0 = .ok (.iload_n 1, 1) := by decide +kernel
theorem dX4_run_1 : decode cX4_run 1 = .ok (.iconst 1, 1) := by decide +kernel
theorem dX4_run_2 : decode cX4_run 2 = .ok (.bipush 50, 2) := by decide +kernel
theorem dX4_run_4 : decode cX4_run 4 = .ok (.invokestatic 47, 3) := by decide +kernel
theorem dX4_run_7 : decode cX4_run 7 = .ok (.iconst 0, 1) := by decide +kernel
theorem dX4_run_8 : decode cX4_run 8 = .ok (.istore_n 3, 1) := by decide +kernel
theorem dX4_run_9 : decode cX4_run 9 = .ok (.iload_n 3, 1) := by decide +kernel
theorem dX4_run_10 : decode cX4_run 10 = .ok (.aload_n 0, 1) := by decide +kernel
theorem dX4_run_11 : decode cX4_run 11 = .ok (.getfield 10, 3) := by decide +kernel
theorem dX4_run_14 : decode cX4_run 14 = .ok (.invokevirtual 51, 3) := by decide +kernel
theorem dX4_run_17 : decode cX4_run 17 = .ok (.if_icmp .ge 44, 3) := by decide +kernel
theorem dX4_run_20 : decode cX4_run 20 = .ok (.aload_n 0, 1) := by decide +kernel
theorem dX4_run_21 : decode cX4_run 21 = .ok (.getfield 10, 3) := by decide +kernel
theorem dX4_run_24 : decode cX4_run 24 = .ok (.iload_n 3, 1) := by decide +kernel
theorem dX4_run_25 : decode cX4_run 25 = .ok (.invokevirtual 122, 3) := by decide +kernel
theorem dX4_run_28 : decode cX4_run 28 = .ok (.checkcast 59, 3) := by decide +kernel
theorem dX4_run_31 : decode cX4_run 31 = .ok (.astore 4, 2) := by decide +kernel
theorem dX4_run_33 : decode cX4_run 33 = .ok (.aload 4, 2) := by decide +kernel
theorem dX4_run_35 : decode cX4_run 35 = .ok (.iload_n 2, 1) := by decide +kernel
theorem dX4_run_36 : decode cX4_run 36 = .ok (.ifCond .eq 15, 3) := by decide +kernel
theorem dX4_run_39 : decode cX4_run 39 = .ok (.aload 4, 2) := by decide +kernel
theorem dX4_run_41 : decode cX4_run 41 = .ok (.aload_n 0, 1) := by decide +kernel
theorem dX4_run_42 : decode cX4_run 42 = .ok (.getfield 34, 3) := by decide +kernel
theorem dX4_run_45 : decode cX4_run 45 = .ok (.invokevirtual 126, 3) := by decide +kernel
theorem dX4_run_48 : decode cX4_run 48 = .ok (.goto 4, 3) := by decide +kernel
theorem dX4_run_51 : decode cX4_run 51 = .ok (.iconst 0, 1) := by decide +kernel
theorem dX4_run_52 : decode cX4_run 52 = .ok (.putfield 130, 3) := by decide +kernel
theorem dX4_run_55 : decode cX4_run 55 = .ok (.iinc 3 1, 3) := by decide +kernel
theorem dX4_run_58 : decode cX4_run 58 = .ok (.goto (-49), 3) := by decide +kernel
theorem dX4_run_61 : decode cX4_run 61 = .ok (.aload_n 0, 1) := by decide +kernel
theorem dX4_run_62 : decode cX4_run 62 = .ok (.iconst 0, 1) := by decide +kernel
theorem dX4_run_63 : decode cX4_run 63 = .ok (.putfield 30, 3) := by decide +kernel
theorem dX4_run_66 : decode cX4_run 66 = .ok (.iconst 0, 1) := by decide +kernel
theorem dX4_run_67 : decode cX4_run 67 = .ok (.istore_n 3, 1) := by decide +kernel
theorem dX4_run_68 : decode cX4_run 68 = .ok (.aload_n 0, 1) := by decide +kernel
theorem dX4_run_69 : decode cX4_run 69 = .ok (.getfield 30, 3) := by decide +kernel
theorem dX4_run_72 : decode cX4_run 72 = .ok (.iload_n 1, 1) := by decide +kernel
theorem dX4_run_73 : decode cX4_run 73 = .ok (.if_icmp .ge 48, 3) := by decide +kernel
theorem dX4_run_76 : decode cX4_run 76 = .ok (.iload_n 3, 1) := by decide +kernel
theorem dX4_run_77 : decode cX4_run 77 = .ok (.ifCond .ne 44, 3) := by decide +kernel
theorem dX4_run_80 : decode cX4_run 80 = .ok (.aload_n 0, 1) := by decide +kernel
theorem dX4_run_81 : decode cX4_run 81 = .ok (.invokevirtual 133, 3) := by decide +kernel
theorem dX4_run_84 : decode cX4_run 84 = .ok (.istore 4, 2) := by decide +kernel
theorem dX4_run_86 : decode cX4_run 86 = .ok (.aload_n 0, 1) := by decide +kernel
theorem dX4_run_87 : decode cX4_run 87 = .ok (.getfield 26, 3) := by decide +kernel
theorem dX4_run_90 : decode cX4_run 90 = .ok (.aload_n 0, 1) := by decide +kernel
theorem dX4_run_91 : decode cX4_run 91 = .ok (.getfield 30, 3) := by decide +kernel
theorem dX4_run_94 : decode cX4_run 94 = .ok (.iload 4, 2) := by decide +kernel
theorem dX4_run_96 : decode cX4_run 96 = .ok (.iastore, 1) := by decide +kernel
theorem dX4_run_97 : decode cX4_run 97 = .ok (.aload_n 0, 1) := by decide +kernel
theorem dX4_run_98 : decode cX4_run 98 = .ok (.dup, 1) := by decide +kernel
theorem dX4_run_99 : decode cX4_run 99 = .ok (.getfield 30, 3) := by decide +kernel
theorem dX4_run_102 : decode cX4_run 102 = .ok (.iconst 1, 1) := by decide +kernel
theorem dX4_run_103 : decode cX4_run 103 = .ok (.iadd, 1) := by decide +kernel
theorem dX4_run_104 : decode cX4_run 104 = .ok (.putfield 30, 3) := by decide +kernel
theorem dX4_run_107 : decode cX4_run 107 = .ok (.iload 4, 2) := by decide +kernel
theorem dX4_run_109 : decode cX4_run 109 = .ok (.ifCond .ne 7, 3) := by decide +kernel
theorem dX4_run_112 : decode cX4_run 112 = .ok (.iconst 1, 1) := by decide +kernel
theorem dX4_run_113 : decode cX4_run 113 = .ok (.goto 4, 3) := by decide +kernel
theorem dX4_run_116 : decode cX4_run 116 = .ok (.iconst 0, 1) := by decide +kernel
theorem dX4_run_117 : decode cX4_run 117 = .ok (.istore_n 3, 1) := by decide +kernel
theorem dX4_run_118 : decode cX4_run 118 = .ok (.goto (-50), 3) := by decide +kernel
theorem dX4_run_121 : decode cX4_run 121 = .ok (.aload_n 0, 1) := by decide +kernel
theorem dX4_run_122 : decode cX4_run 122 = .ok (.invokevirtual 136, 3) := by decide +kernel
theorem dX4_run_125 : decode cX4_run 125 = .ok (.aload_n 0, 1) := by decide +kernel
theorem dX4_run_126 : decode cX4_run 126 = .ok (.getfield 30, 3) := by decide +kernel
theorem dX4_run_129 : decode cX4_run 129 = .ok (.ireturn, 1) := by decide +kernel
theorem dX4_early_0 : decode cX4_early 0 = .ok (.aload_n 0, 1) := by decide +kernel
theorem dX4_early_1 : decode cX4_early 1 = .ok (.iload_n 1, 1) := by decide +kernel
theorem dX4_early_2 : decode cX4_early 2 = .ok (.invokevirtual 71, 3) := by decide +kernel
theorem dX4_early_5 : decode cX4_early 5 = .ok (.getfield 139, 3) := by decide +kernel
theorem dX4_early_8 : decode cX4_early 8 = .ok (.ireturn, 1) := by decide +kernel
theorem dX4_late_0 : decode cX4_late 0 = .ok (.aload_n 0, 1) := by decide +kernel
theorem dX4_late_1 : decode cX4_late 1 = .ok (.iload_n 1, 1) := by decide +kernel
theorem dX4_late_2 : decode cX4_late 2 = .ok (.invokevirtual 71, 3) := by decide +kernel
theorem dX4_late_5 : decode cX4_late 5 = .ok (.getfield 142, 3) := by decide +kernel
theorem dX4_late_8 : decode cX4_late 8 = .ok (.ireturn, 1) := by decide +kernel
theorem dX4_added_0 : decode cX4_added 0 = .ok (.aload_n 0, 1) := by decide +kernel
theorem dX4_added_1 : decode cX4_added 1 = .ok (.iload_n 1, 1) := by decide +kernel
theorem dX4_added_2 : decode cX4_added 2 = .ok (.invokevirtual 71, 3) := by decide +kernel
theorem dX4_added_5 : decode cX4_added 5 = .ok (.getfield 130, 3) := by decide +kernel
theorem dX4_added_8 : decode cX4_added 8 = .ok (.ireturn, 1) := by decide +kernel
theorem dX4_changed_0 : decode cX4_changed 0 = .ok (.iload_n 1, 1) := by decide +kernel
theorem dX4_changed_1 : decode cX4_changed 1 = .ok (.aload_n 0, 1) := by decide +kernel
theorem dX4_changed_2 : decode cX4_changed 2 = .ok (.getfield 30, 3) := by decide +kernel
theorem dX4_changed_5 : decode cX4_changed 5 = .ok (.invokestatic 145, 3) := by decide +kernel
theorem dX4_changed_8 : decode cX4_changed 8 = .ok (.aload_n 0, 1) := by decide +kernel
theorem dX4_changed_9 : decode cX4_changed 9 = .ok (.getfield 26, 3) := by decide +kernel
theorem dX4_changed_12 : decode cX4_changed 12 = .ok (.iload_n 1, 1) := by decide +kernel
theorem dX4_changed_13 : decode cX4_changed 13 = .ok (.iaload, 1) := by decide +kernel
theorem dX4_changed_14 : decode cX4_changed 14 = .ok (.ireturn, 1) := by decide +kernel
theorem dX4_source_0 : decode cX4_source 0 = .ok (.aload_n 0, 1) := by decide +kernel
theorem dX4_source_1 : decode cX4_source 1 = .ok (.iload_n 1, 1) := by decide +kernel
theorem dX4_source_2 : decode cX4_source 2 = .ok (.invokevirtual 71, 3) := by decide +kernel
theorem dX4_source_5 : decode cX4_source 5 = .ok (.astore_n 3, 1) := by decide +kernel
theorem dX4_source_6 : decode cX4_source 6 = .ok (.iload_n 2, 1) := by decide +kernel
theorem dX4_source_7 : decode cX4_source 7 = .ok (.ifCond .ge 13, 3) := by decide +kernel
theorem dX4_source_10 : decode cX4_source 10 = .ok (.new 148, 3) := by decide +kernel
theorem dX4_source_13 : decode cX4_source 13 = .ok (.dup, 1) := by decide +kernel
theorem dX4_source_14 : decode cX4_source 14 = .ok (.ldc 150, 2) := by decide +kernel
theorem dX4_source_16 : decode cX4_source 16 = .ok (.invokespecial 152, 3) := by decide +kernel
theorem dX4_source_19 : decode cX4_source 19 = .ok (.athrow, 1) := by decide +kernel
theorem dX4_source_20 : decode cX4_source 20 = .ok (.aload_n 3, 1) := by decide +kernel
theorem dX4_source_21 : decode cX4_source 21 = .ok (.iload_n 2, 1) := by decide +kernel
theorem dX4_source_22 : decode cX4_source 22 = .ok (.invokevirtual 155, 3) := by decide +kernel
theorem dX4_source_25 : decode cX4_source 25 = .ok (.ireturn, 1) := by decide +kernel
theorem dX4_height_0 : decode cX4_height 0 = .ok (.aload_n 0, 1) := by decide +kernel
theorem dX4_height_1 : decode cX4_height 1 = .ok (.iload_n 1, 1) := by decide +kernel
theorem dX4_height_2 : decode cX4_height 2 = .ok (.invokevirtual 71, 3) := by decide +kernel
theorem dX4_height_5 : decode cX4_height 5 = .ok (.aload_n 0, 1) := by decide +kernel
theorem dX4_height_6 : decode cX4_height 6 = .ok (.getfield 34, 3) := by decide +kernel
theorem dX4_height_9 : decode cX4_height 9 = .ok (.invokevirtual 158, 3) := by decide +kernel
theorem dX4_height_12 : decode cX4_height 12 = .ok (.ireturn, 1) := by decide +kernel
theorem dX4_noise_0 : decode cX4_noise 0 = .ok (.aload_n 0, 1) := by decide +kernel
theorem dX4_noise_1 : decode cX4_noise 1 = .ok (.iload_n 1, 1) := by decide +kernel
theorem dX4_noise_2 : decode cX4_noise 2 = .ok (.invokevirtual 71, 3) := by decide +kernel
theorem dX4_noise_5 : decode cX4_noise 5 = .ok (.astore_n 2, 1) := by decide +kernel
theorem dX4_noise_6 : decode cX4_noise 6 = .ok (.iconst 0, 1) := by decide +kernel
theorem dX4_noise_7 : decode cX4_noise 7 = .ok (.istore_n 3, 1) := by decide +kernel
theorem dX4_noise_8 : decode cX4_noise 8 = .ok (.iload_n 3, 1) := by decide +kernel
theorem dX4_noise_9 : decode cX4_noise 9 = .ok (.aload_n 0, 1) := by decide +kernel
theorem dX4_noise_10 : decode cX4_noise 10 = .ok (.getfield 16, 3) := by decide +kernel
theorem dX4_noise_13 : decode cX4_noise 13 = .ok (.invokevirtual 51, 3) := by decide +kernel
theorem dX4_noise_16 : decode cX4_noise 16 = .ok (.if_icmp .ge 35, 3) := by decide +kernel
theorem dX4_noise_19 : decode cX4_noise 19 = .ok (.aload_n 0, 1) := by decide +kernel
theorem dX4_noise_20 : decode cX4_noise 20 = .ok (.getfield 16, 3) := by decide +kernel
theorem dX4_noise_23 : decode cX4_noise 23 = .ok (.iload_n 3, 1) := by decide +kernel
theorem dX4_noise_24 : decode cX4_noise 24 = .ok (.invokevirtual 122, 3) := by decide +kernel
theorem dX4_noise_27 : decode cX4_noise 27 = .ok (.checkcast 59, 3) := by decide +kernel
theorem dX4_noise_30 : decode cX4_noise 30 = .ok (.astore 4, 2) := by decide +kernel
theorem dX4_noise_32 : decode cX4_noise 32 = .ok (.aload 4, 2) := by decide +kernel
theorem dX4_noise_34 : decode cX4_noise 34 = .ok (.aload_n 0, 1) := by decide +kernel
theorem dX4_noise_35 : decode cX4_noise 35 = .ok (.getfield 34, 3) := by decide +kernel
theorem dX4_noise_38 : decode cX4_noise 38 = .ok (.aload_n 0, 1) := by decide +kernel
theorem dX4_noise_39 : decode cX4_noise 39 = .ok (.getfield 22, 3) := by decide +kernel
theorem dX4_noise_42 : decode cX4_noise 42 = .ok (.invokevirtual 161, 3) := by decide +kernel
theorem dX4_noise_45 : decode cX4_noise 45 = .ok (.iinc 3 1, 3) := by decide +kernel
theorem dX4_noise_48 : decode cX4_noise 48 = .ok (.goto (-40), 3) := by decide +kernel
theorem dX4_noise_51 : decode cX4_noise 51 = .ok (.aload_n 2, 1) := by decide +kernel
theorem dX4_noise_52 : decode cX4_noise 52 = .ok (.getfield 165, 3) := by decide +kernel
theorem dX4_noise_55 : decode cX4_noise 55 = .ok (.ireturn, 1) := by decide +kernel
theorem dX4_count_0 : decode cX4_count 0 = .ok (.iload_n 1, 1) := by decide +kernel
theorem dX4_count_1 : decode cX4_count 1 = .ok (.tableswitch 66 0 4 #[35, 43, 48, 53, 58], 35) := by decide +kernel
theorem dX4_count_36 : decode cX4_count 36 = .ok (.aload_n 0, 1) := by decide +kernel
theorem dX4_count_37 : decode cX4_count 37 = .ok (.getfield 10, 3) := by decide +kernel
theorem dX4_count_40 : decode cX4_count 40 = .ok (.invokevirtual 51, 3) := by decide +kernel
theorem dX4_count_43 : decode cX4_count 43 = .ok (.ireturn, 1) := by decide +kernel
theorem dX4_count_44 : decode cX4_count 44 = .ok (.aload_n 0, 1) := by decide +kernel
theorem dX4_count_45 : decode cX4_count 45 = .ok (.getfield 37, 3) := by decide +kernel
theorem dX4_count_48 : decode cX4_count 48 = .ok (.ireturn, 1) := by decide +kernel
theorem dX4_count_49 : decode cX4_count 49 = .ok (.aload_n 0, 1) := by decide +kernel
theorem dX4_count_50 : decode cX4_count 50 = .ok (.getfield 40, 3) := by decide +kernel
theorem dX4_count_53 : decode cX4_count 53 = .ok (.ireturn, 1) := by decide +kernel
theorem dX4_count_54 : decode cX4_count 54 = .ok (.aload_n 0, 1) := by decide +kernel
theorem dX4_count_55 : decode cX4_count 55 = .ok (.getfield 43, 3) := by decide +kernel
theorem dX4_count_58 : decode cX4_count 58 = .ok (.ireturn, 1) := by decide +kernel
theorem dX4_count_59 : decode cX4_count 59 = .ok (.aload_n 0, 1) := by decide +kernel
theorem dX4_count_60 : decode cX4_count 60 = .ok (.getfield 22, 3) := by decide +kernel
theorem dX4_count_63 : decode cX4_count 63 = .ok (.getfield 116, 3) := by decide +kernel
theorem dX4_count_66 : decode cX4_count 66 = .ok (.ireturn, 1) := by decide +kernel
theorem dX4_count_67 : decode cX4_count 67 = .ok (.new 148, 3) := by decide +kernel
theorem dX4_count_70 : decode cX4_count 70 = .ok (.dup, 1) := by decide +kernel
theorem dX4_count_71 : decode cX4_count 71 = .ok (.ldc 168, 2) := by decide +kernel
theorem dX4_count_73 : decode cX4_count 73 = .ok (.invokespecial 152, 3) := by decide +kernel
theorem dX4_count_76 : decode cX4_count 76 = .ok (.athrow, 1) := by decide +kernel
theorem dX4_clear_0 : decode cX4_clear 0 = .ok (.aload_n 0, 1) := by decide +kernel
theorem dX4_clear_1 : decode cX4_clear 1 = .ok (.getfield 10, 3) := by decide +kernel
theorem dX4_clear_4 : decode cX4_clear 4 = .ok (.invokevirtual 170, 3) := by decide +kernel
theorem dX4_clear_7 : decode cX4_clear 7 = .ok (.aload_n 0, 1) := by decide +kernel
theorem dX4_clear_8 : decode cX4_clear 8 = .ok (.getfield 16, 3) := by decide +kernel
theorem dX4_clear_11 : decode cX4_clear 11 = .ok (.invokevirtual 170, 3) := by decide +kernel
theorem dX4_clear_14 : decode cX4_clear 14 = .ok (.aload_n 0, 1) := by decide +kernel
theorem dX4_clear_15 : decode cX4_clear 15 = .ok (.getfield 22, 3) := by decide +kernel
theorem dX4_clear_18 : decode cX4_clear 18 = .ok (.iconst 0, 1) := by decide +kernel
theorem dX4_clear_19 : decode cX4_clear 19 = .ok (.putfield 116, 3) := by decide +kernel
theorem dX4_clear_22 : decode cX4_clear 22 = .ok (.aload_n 0, 1) := by decide +kernel
theorem dX4_clear_23 : decode cX4_clear 23 = .ok (.iconst 0, 1) := by decide +kernel
theorem dX4_clear_24 : decode cX4_clear 24 = .ok (.putfield 30, 3) := by decide +kernel
theorem dX4_clear_27 : decode cX4_clear 27 = .ok (.aload_n 0, 1) := by decide +kernel
theorem dX4_clear_28 : decode cX4_clear 28 = .ok (.iconst 4, 1) := by decide +kernel
theorem dX4_clear_29 : decode cX4_clear 29 = .ok (.putfield 34, 3) := by decide +kernel
theorem dX4_clear_32 : decode cX4_clear 32 = .ok (.aload_n 0, 1) := by decide +kernel
theorem dX4_clear_33 : decode cX4_clear 33 = .ok (.iconst 0, 1) := by decide +kernel
theorem dX4_clear_34 : decode cX4_clear 34 = .ok (.putfield 37, 3) := by decide +kernel
theorem dX4_clear_37 : decode cX4_clear 37 = .ok (.aload_n 0, 1) := by decide +kernel
theorem dX4_clear_38 : decode cX4_clear 38 = .ok (.iconst 0, 1) := by decide +kernel
theorem dX4_clear_39 : decode cX4_clear 39 = .ok (.putfield 40, 3) := by decide +kernel
theorem dX4_clear_42 : decode cX4_clear 42 = .ok (.aload_n 0, 1) := by decide +kernel
theorem dX4_clear_43 : decode cX4_clear 43 = .ok (.iconst 0, 1) := by decide +kernel
theorem dX4_clear_44 : decode cX4_clear 44 = .ok (.putfield 43, 3) := by decide +kernel
theorem dX4_clear_47 : decode cX4_clear 47 = .ok (.return_, 1) := by decide +kernel
theorem dX4_netAt_0 : decode cX4_netAt 0 = .ok (.iload_n 1, 1) := by decide +kernel
theorem dX4_netAt_1 : decode cX4_netAt 1 = .ok (.aload_n 0, 1) := by decide +kernel
theorem dX4_netAt_2 : decode cX4_netAt 2 = .ok (.getfield 10, 3) := by decide +kernel
theorem dX4_netAt_5 : decode cX4_netAt 5 = .ok (.invokevirtual 51, 3) := by decide +kernel
theorem dX4_netAt_8 : decode cX4_netAt 8 = .ok (.invokestatic 145, 3) := by decide +kernel
theorem dX4_netAt_11 : decode cX4_netAt 11 = .ok (.aload_n 0, 1) := by decide +kernel
theorem dX4_netAt_12 : decode cX4_netAt 12 = .ok (.getfield 10, 3) := by decide +kernel
theorem dX4_netAt_15 : decode cX4_netAt 15 = .ok (.iload_n 1, 1) := by decide +kernel
theorem dX4_netAt_16 : decode cX4_netAt 16 = .ok (.invokevirtual 122, 3) := by decide +kernel
theorem dX4_netAt_19 : decode cX4_netAt 19 = .ok (.checkcast 59, 3) := by decide +kernel
theorem dX4_netAt_22 : decode cX4_netAt 22 = .ok (.areturn, 1) := by decide +kernel
theorem dX4_requirePlace_0 : decode cX4_requirePlace 0 = .ok (.iload_n 0, 1) := by decide +kernel
theorem dX4_requirePlace_1 : decode cX4_requirePlace 1 = .ok (.ifCond .lt 8, 3) := by decide +kernel
theorem dX4_requirePlace_4 : decode cX4_requirePlace 4 = .ok (.iload_n 0, 1) := by decide +kernel
theorem dX4_requirePlace_5 : decode cX4_requirePlace 5 = .ok (.iload_n 1, 1) := by decide +kernel
theorem dX4_requirePlace_6 : decode cX4_requirePlace 6 = .ok (.if_icmp .lt 13, 3) := by decide +kernel
theorem dX4_requirePlace_9 : decode cX4_requirePlace 9 = .ok (.new 148, 3) := by decide +kernel
theorem dX4_requirePlace_12 : decode cX4_requirePlace 12 = .ok (.dup, 1) := by decide +kernel
theorem dX4_requirePlace_13 : decode cX4_requirePlace 13 = .ok (.ldc 150, 2) := by decide +kernel
theorem dX4_requirePlace_15 : decode cX4_requirePlace 15 = .ok (.invokespecial 152, 3) := by decide +kernel
theorem dX4_requirePlace_18 : decode cX4_requirePlace 18 = .ok (.athrow, 1) := by decide +kernel
theorem dX4_requirePlace_19 : decode cX4_requirePlace 19 = .ok (.return_, 1) := by decide +kernel
theorem dX4_requireWithin_0 : decode cX4_requireWithin 0 = .ok (.iload_n 0, 1) := by decide +kernel
theorem dX4_requireWithin_1 : decode cX4_requireWithin 1 = .ok (.iload_n 1, 1) := by decide +kernel
theorem dX4_requireWithin_2 : decode cX4_requireWithin 2 = .ok (.if_icmp .lt 8, 3) := by decide +kernel
theorem dX4_requireWithin_5 : decode cX4_requireWithin 5 = .ok (.iload_n 0, 1) := by decide +kernel
theorem dX4_requireWithin_6 : decode cX4_requireWithin 6 = .ok (.iload_n 2, 1) := by decide +kernel
theorem dX4_requireWithin_7 : decode cX4_requireWithin 7 = .ok (.if_icmp .le 13, 3) := by decide +kernel
theorem dX4_requireWithin_10 : decode cX4_requireWithin 10 = .ok (.new 173, 3) := by decide +kernel
theorem dX4_requireWithin_13 : decode cX4_requireWithin 13 = .ok (.dup, 1) := by decide +kernel
theorem dX4_requireWithin_14 : decode cX4_requireWithin 14 = .ok (.ldc 175, 2) := by decide +kernel
theorem dX4_requireWithin_16 : decode cX4_requireWithin 16 = .ok (.invokespecial 177, 3) := by decide +kernel
theorem dX4_requireWithin_19 : decode cX4_requireWithin 19 = .ok (.athrow, 1) := by decide +kernel
theorem dX4_requireWithin_20 : decode cX4_requireWithin 20 = .ok (.return_, 1) := by decide +kernel
theorem dX4_requireDifferent_0 : decode cX4_requireDifferent 0 = .ok (.iload_n 0, 1) := by decide +kernel
theorem dX4_requireDifferent_1 : decode cX4_requireDifferent 1 = .ok (.iload_n 1, 1) := by decide +kernel
theorem dX4_requireDifferent_2 : decode cX4_requireDifferent 2 = .ok (.if_icmp .ne 13, 3) := by decide +kernel
theorem dX4_requireDifferent_5 : decode cX4_requireDifferent 5 = .ok (.new 173, 3) := by decide +kernel
theorem dX4_requireDifferent_8 : decode cX4_requireDifferent 8 = .ok (.dup, 1) := by decide +kernel
theorem dX4_requireDifferent_9 : decode cX4_requireDifferent 9 = .ok (.ldc 178, 2) := by decide +kernel
theorem dX4_requireDifferent_11 : decode cX4_requireDifferent 11 = .ok (.invokespecial 177, 3) := by decide +kernel
theorem dX4_requireDifferent_14 : decode cX4_requireDifferent 14 = .ok (.athrow, 1) := by decide +kernel
theorem dX4_requireDifferent_15 : decode cX4_requireDifferent 15 = .ok (.return_, 1) := by decide +kernel
theorem dX4_requireRoom_0 : decode cX4_requireRoom 0 = .ok (.iload_n 0, 1) := by decide +kernel
theorem dX4_requireRoom_1 : decode cX4_requireRoom 1 = .ok (.iload_n 1, 1) := by decide +kernel
theorem dX4_requireRoom_2 : decode cX4_requireRoom 2 = .ok (.if_icmp .lt 13, 3) := by decide +kernel
theorem dX4_requireRoom_5 : decode cX4_requireRoom 5 = .ok (.new 180, 3) := by decide +kernel
theorem dX4_requireRoom_8 : decode cX4_requireRoom 8 = .ok (.dup, 1) := by decide +kernel
theorem dX4_requireRoom_9 : decode cX4_requireRoom 9 = .ok (.ldc 182, 2) := by decide +kernel
theorem dX4_requireRoom_11 : decode cX4_requireRoom 11 = .ok (.invokespecial 184, 3) := by decide +kernel
theorem dX4_requireRoom_14 : decode cX4_requireRoom 14 = .ok (.athrow, 1) := by decide +kernel
theorem dX4_requireRoom_15 : decode cX4_requireRoom 15 = .ok (.return_, 1) := by decide +kernel
theorem dX4_spreadLeaders_0 : decode cX4_spreadLeaders 0 = .ok (.aload_n 1, 1) := by decide +kernel
theorem dX4_spreadLeaders_1 : decode cX4_spreadLeaders 1 = .ok (.getfield 185, 3) := by decide +kernel
theorem dX4_spreadLeaders_4 : decode cX4_spreadLeaders 4 = .ok (.aload_n 1, 1) := by decide +kernel
theorem dX4_spreadLeaders_5 : decode cX4_spreadLeaders 5 = .ok (.invokevirtual 94, 3) := by decide +kernel
theorem dX4_spreadLeaders_8 : decode cX4_spreadLeaders 8 = .ok (.lor, 1) := by decide +kernel
theorem dX4_spreadLeaders_9 : decode cX4_spreadLeaders 9 = .ok (.lstore_n 3, 1) := by decide +kernel
theorem dX4_spreadLeaders_10 : decode cX4_spreadLeaders 10 = .ok (.iconst 0, 1) := by decide +kernel
theorem dX4_spreadLeaders_11 : decode cX4_spreadLeaders 11 = .ok (.istore 5, 2) := by decide +kernel
theorem dX4_spreadLeaders_13 : decode cX4_spreadLeaders 13 = .ok (.iload 5, 2) := by decide +kernel
theorem dX4_spreadLeaders_15 : decode cX4_spreadLeaders 15 = .ok (.aload_n 0, 1) := by decide +kernel
theorem dX4_spreadLeaders_16 : decode cX4_spreadLeaders 16 = .ok (.getfield 10, 3) := by decide +kernel
theorem dX4_spreadLeaders_19 : decode cX4_spreadLeaders 19 = .ok (.invokevirtual 51, 3) := by decide +kernel
theorem dX4_spreadLeaders_22 : decode cX4_spreadLeaders 22 = .ok (.if_icmp .ge 49, 3) := by decide +kernel
theorem dX4_spreadLeaders_25 : decode cX4_spreadLeaders 25 = .ok (.aload_n 0, 1) := by decide +kernel
theorem dX4_spreadLeaders_26 : decode cX4_spreadLeaders 26 = .ok (.getfield 10, 3) := by decide +kernel
theorem dX4_spreadLeaders_29 : decode cX4_spreadLeaders 29 = .ok (.iload 5, 2) := by decide +kernel
theorem dX4_spreadLeaders_31 : decode cX4_spreadLeaders 31 = .ok (.invokevirtual 122, 3) := by decide +kernel
theorem dX4_spreadLeaders_34 : decode cX4_spreadLeaders 34 = .ok (.checkcast 59, 3) := by decide +kernel
theorem dX4_spreadLeaders_37 : decode cX4_spreadLeaders 37 = .ok (.astore 6, 2) := by decide +kernel
theorem dX4_spreadLeaders_39 : decode cX4_spreadLeaders 39 = .ok (.aload 6, 2) := by decide +kernel
theorem dX4_spreadLeaders_41 : decode cX4_spreadLeaders 41 = .ok (.aload_n 2, 1) := by decide +kernel
theorem dX4_spreadLeaders_42 : decode cX4_spreadLeaders 42 = .ok (.if_acmp .eq 12, 3) := by decide +kernel
theorem dX4_spreadLeaders_45 : decode cX4_spreadLeaders 45 = .ok (.aload 6, 2) := by decide +kernel
theorem dX4_spreadLeaders_47 : decode cX4_spreadLeaders 47 = .ok (.aload_n 2, 1) := by decide +kernel
theorem dX4_spreadLeaders_48 : decode cX4_spreadLeaders 48 = .ok (.invokevirtual 99, 3) := by decide +kernel
theorem dX4_spreadLeaders_51 : decode cX4_spreadLeaders 51 = .ok (.ifCond .eq 14, 3) := by decide +kernel
theorem dX4_spreadLeaders_54 : decode cX4_spreadLeaders 54 = .ok (.aload 6, 2) := by decide +kernel
theorem dX4_spreadLeaders_56 : decode cX4_spreadLeaders 56 = .ok (.dup, 1) := by decide +kernel
theorem dX4_spreadLeaders_57 : decode cX4_spreadLeaders 57 = .ok (.getfield 185, 3) := by decide +kernel
theorem dX4_spreadLeaders_60 : decode cX4_spreadLeaders 60 = .ok (.lload_n 3, 1) := by decide +kernel
theorem dX4_spreadLeaders_61 : decode cX4_spreadLeaders 61 = .ok (.lor, 1) := by decide +kernel
theorem dX4_spreadLeaders_62 : decode cX4_spreadLeaders 62 = .ok (.putfield 185, 3) := by decide +kernel
theorem dX4_spreadLeaders_65 : decode cX4_spreadLeaders 65 = .ok (.iinc 5 1, 3) := by decide +kernel
theorem dX4_spreadLeaders_68 : decode cX4_spreadLeaders 68 = .ok (.goto (-55), 3) := by decide +kernel
theorem dX4_spreadLeaders_71 : decode cX4_spreadLeaders 71 = .ok (.return_, 1) := by decide +kernel
theorem dX4_sortFlow_0 : decode cX4_sortFlow 0 = .ok (.iconst 1, 1) := by decide +kernel
theorem dX4_sortFlow_1 : decode cX4_sortFlow 1 = .ok (.istore_n 1, 1) := by decide +kernel
theorem dX4_sortFlow_2 : decode cX4_sortFlow 2 = .ok (.iload_n 1, 1) := by decide +kernel
theorem dX4_sortFlow_3 : decode cX4_sortFlow 3 = .ok (.aload_n 0, 1) := by decide +kernel
theorem dX4_sortFlow_4 : decode cX4_sortFlow 4 = .ok (.getfield 16, 3) := by decide +kernel
theorem dX4_sortFlow_7 : decode cX4_sortFlow 7 = .ok (.invokevirtual 51, 3) := by decide +kernel
theorem dX4_sortFlow_10 : decode cX4_sortFlow 10 = .ok (.if_icmp .ge 88, 3) := by decide +kernel
theorem dX4_sortFlow_13 : decode cX4_sortFlow 13 = .ok (.aload_n 0, 1) := by decide +kernel
theorem dX4_sortFlow_14 : decode cX4_sortFlow 14 = .ok (.getfield 16, 3) := by decide +kernel
theorem dX4_sortFlow_17 : decode cX4_sortFlow 17 = .ok (.iload_n 1, 1) := by decide +kernel
theorem dX4_sortFlow_18 : decode cX4_sortFlow 18 = .ok (.invokevirtual 122, 3) := by decide +kernel
theorem dX4_sortFlow_21 : decode cX4_sortFlow 21 = .ok (.checkcast 59, 3) := by decide +kernel
theorem dX4_sortFlow_24 : decode cX4_sortFlow 24 = .ok (.astore_n 2, 1) := by decide +kernel
theorem dX4_sortFlow_25 : decode cX4_sortFlow 25 = .ok (.iload_n 1, 1) := by decide +kernel
theorem dX4_sortFlow_26 : decode cX4_sortFlow 26 = .ok (.istore_n 3, 1) := by decide +kernel
theorem dX4_sortFlow_27 : decode cX4_sortFlow 27 = .ok (.iload_n 3, 1) := by decide +kernel
theorem dX4_sortFlow_28 : decode cX4_sortFlow 28 = .ok (.ifCond .le 54, 3) := by decide +kernel
theorem dX4_sortFlow_31 : decode cX4_sortFlow 31 = .ok (.aload_n 0, 1) := by decide +kernel
theorem dX4_sortFlow_32 : decode cX4_sortFlow 32 = .ok (.getfield 16, 3) := by decide +kernel
theorem dX4_sortFlow_35 : decode cX4_sortFlow 35 = .ok (.iload_n 3, 1) := by decide +kernel
theorem dX4_sortFlow_36 : decode cX4_sortFlow 36 = .ok (.iconst 1, 1) := by decide +kernel
theorem dX4_sortFlow_37 : decode cX4_sortFlow 37 = .ok (.isub, 1) := by decide +kernel
theorem dX4_sortFlow_38 : decode cX4_sortFlow 38 = .ok (.invokevirtual 122, 3) := by decide +kernel
theorem dX4_sortFlow_41 : decode cX4_sortFlow 41 = .ok (.checkcast 59, 3) := by decide +kernel
theorem dX4_sortFlow_44 : decode cX4_sortFlow 44 = .ok (.invokevirtual 188, 3) := by decide +kernel
theorem dX4_sortFlow_47 : decode cX4_sortFlow 47 = .ok (.aload_n 2, 1) := by decide +kernel
theorem dX4_sortFlow_48 : decode cX4_sortFlow 48 = .ok (.invokevirtual 188, 3) := by decide +kernel
theorem dX4_sortFlow_51 : decode cX4_sortFlow 51 = .ok (.if_icmp .le 31, 3) := by decide +kernel
theorem dX4_sortFlow_54 : decode cX4_sortFlow 54 = .ok (.aload_n 0, 1) := by decide +kernel
theorem dX4_sortFlow_55 : decode cX4_sortFlow 55 = .ok (.getfield 16, 3) := by decide +kernel
theorem dX4_sortFlow_58 : decode cX4_sortFlow 58 = .ok (.iload_n 3, 1) := by decide +kernel
theorem dX4_sortFlow_59 : decode cX4_sortFlow 59 = .ok (.aload_n 0, 1) := by decide +kernel
theorem dX4_sortFlow_60 : decode cX4_sortFlow 60 = .ok (.getfield 16, 3) := by decide +kernel
theorem dX4_sortFlow_63 : decode cX4_sortFlow 63 = .ok (.iload_n 3, 1) := by decide +kernel
theorem dX4_sortFlow_64 : decode cX4_sortFlow 64 = .ok (.iconst 1, 1) := by decide +kernel
theorem dX4_sortFlow_65 : decode cX4_sortFlow 65 = .ok (.isub, 1) := by decide +kernel
theorem dX4_sortFlow_66 : decode cX4_sortFlow 66 = .ok (.invokevirtual 122, 3) := by decide +kernel
theorem dX4_sortFlow_69 : decode cX4_sortFlow 69 = .ok (.checkcast 59, 3) := by decide +kernel
theorem dX4_sortFlow_72 : decode cX4_sortFlow 72 = .ok (.invokevirtual 191, 3) := by decide +kernel
theorem dX4_sortFlow_75 : decode cX4_sortFlow 75 = .ok (.pop, 1) := by decide +kernel
theorem dX4_sortFlow_76 : decode cX4_sortFlow 76 = .ok (.iinc 3 (-1), 3) := by decide +kernel
theorem dX4_sortFlow_79 : decode cX4_sortFlow 79 = .ok (.goto (-52), 3) := by decide +kernel
theorem dX4_sortFlow_82 : decode cX4_sortFlow 82 = .ok (.aload_n 0, 1) := by decide +kernel
theorem dX4_sortFlow_83 : decode cX4_sortFlow 83 = .ok (.getfield 16, 3) := by decide +kernel
theorem dX4_sortFlow_86 : decode cX4_sortFlow 86 = .ok (.iload_n 3, 1) := by decide +kernel
theorem dX4_sortFlow_87 : decode cX4_sortFlow 87 = .ok (.aload_n 2, 1) := by decide +kernel
theorem dX4_sortFlow_88 : decode cX4_sortFlow 88 = .ok (.invokevirtual 191, 3) := by decide +kernel
theorem dX4_sortFlow_91 : decode cX4_sortFlow 91 = .ok (.pop, 1) := by decide +kernel
theorem dX4_sortFlow_92 : decode cX4_sortFlow 92 = .ok (.iinc 1 1, 3) := by decide +kernel
theorem dX4_sortFlow_95 : decode cX4_sortFlow 95 = .ok (.goto (-93), 3) := by decide +kernel
theorem dX4_sortFlow_98 : decode cX4_sortFlow 98 = .ok (.return_, 1) := by decide +kernel
theorem dX4_workOutSpans_0 : decode cX4_workOutSpans 0 = .ok (.iconst 0, 1) := by decide +kernel
theorem dX4_workOutSpans_1 : decode cX4_workOutSpans 1 = .ok (.istore_n 1, 1) := by decide +kernel
theorem dX4_workOutSpans_2 : decode cX4_workOutSpans 2 = .ok (.iload_n 1, 1) := by decide +kernel
theorem dX4_workOutSpans_3 : decode cX4_workOutSpans 3 = .ok (.aload_n 0, 1) := by decide +kernel
theorem dX4_workOutSpans_4 : decode cX4_workOutSpans 4 = .ok (.getfield 16, 3) := by decide +kernel
theorem dX4_workOutSpans_7 : decode cX4_workOutSpans 7 = .ok (.invokevirtual 51, 3) := by decide +kernel
theorem dX4_workOutSpans_10 : decode cX4_workOutSpans 10 = .ok (.if_icmp .ge 25, 3) := by decide +kernel
theorem dX4_workOutSpans_13 : decode cX4_workOutSpans 13 = .ok (.aload_n 0, 1) := by decide +kernel
theorem dX4_workOutSpans_14 : decode cX4_workOutSpans 14 = .ok (.getfield 16, 3) := by decide +kernel
theorem dX4_workOutSpans_17 : decode cX4_workOutSpans 17 = .ok (.iload_n 1, 1) := by decide +kernel
theorem dX4_workOutSpans_18 : decode cX4_workOutSpans 18 = .ok (.invokevirtual 122, 3) := by decide +kernel
theorem dX4_workOutSpans_21 : decode cX4_workOutSpans 21 = .ok (.checkcast 59, 3) := by decide +kernel
theorem dX4_workOutSpans_24 : decode cX4_workOutSpans 24 = .ok (.astore_n 2, 1) := by decide +kernel
theorem dX4_workOutSpans_25 : decode cX4_workOutSpans 25 = .ok (.aload_n 2, 1) := by decide +kernel
theorem dX4_workOutSpans_26 : decode cX4_workOutSpans 26 = .ok (.invokevirtual 195, 3) := by decide +kernel
theorem dX4_workOutSpans_29 : decode cX4_workOutSpans 29 = .ok (.iinc 1 1, 3) := by decide +kernel
theorem dX4_workOutSpans_32 : decode cX4_workOutSpans 32 = .ok (.goto (-30), 3) := by decide +kernel
theorem dX4_workOutSpans_35 : decode cX4_workOutSpans 35 = .ok (.return_, 1) := by decide +kernel
theorem dX4_makeRound_0 : decode cX4_makeRound 0 = .ok (.aload_n 0, 1) := by decide +kernel
theorem dX4_makeRound_1 : decode cX4_makeRound 1 = .ok (.invokevirtual 136, 3) := by decide +kernel
theorem dX4_makeRound_4 : decode cX4_makeRound 4 = .ok (.iconst 0, 1) := by decide +kernel
theorem dX4_makeRound_5 : decode cX4_makeRound 5 = .ok (.istore_n 1, 1) := by decide +kernel
theorem dX4_makeRound_6 : decode cX4_makeRound 6 = .ok (.iconst 0, 1) := by decide +kernel
theorem dX4_makeRound_7 : decode cX4_makeRound 7 = .ok (.istore_n 2, 1) := by decide +kernel
theorem dX4_makeRound_8 : decode cX4_makeRound 8 = .ok (.iload_n 2, 1) := by decide +kernel
theorem dX4_makeRound_9 : decode cX4_makeRound 9 = .ok (.aload_n 0, 1) := by decide +kernel
theorem dX4_makeRound_10 : decode cX4_makeRound 10 = .ok (.getfield 10, 3) := by decide +kernel
theorem dX4_makeRound_13 : decode cX4_makeRound 13 = .ok (.invokevirtual 51, 3) := by decide +kernel
theorem dX4_makeRound_16 : decode cX4_makeRound 16 = .ok (.if_icmp .ge 49, 3) := by decide +kernel
theorem dX4_makeRound_19 : decode cX4_makeRound 19 = .ok (.aload_n 0, 1) := by decide +kernel
theorem dX4_makeRound_20 : decode cX4_makeRound 20 = .ok (.getfield 10, 3) := by decide +kernel
theorem dX4_makeRound_23 : decode cX4_makeRound 23 = .ok (.iload_n 2, 1) := by decide +kernel
theorem dX4_makeRound_24 : decode cX4_makeRound 24 = .ok (.invokevirtual 122, 3) := by decide +kernel
theorem dX4_makeRound_27 : decode cX4_makeRound 27 = .ok (.checkcast 59, 3) := by decide +kernel
theorem dX4_makeRound_30 : decode cX4_makeRound 30 = .ok (.astore_n 3, 1) := by decide +kernel
theorem dX4_makeRound_31 : decode cX4_makeRound 31 = .ok (.aload_n 3, 1) := by decide +kernel
theorem dX4_makeRound_32 : decode cX4_makeRound 32 = .ok (.aload_n 0, 1) := by decide +kernel
theorem dX4_makeRound_33 : decode cX4_makeRound 33 = .ok (.getfield 34, 3) := by decide +kernel
theorem dX4_makeRound_36 : decode cX4_makeRound 36 = .ok (.invokevirtual 198, 3) := by decide +kernel
theorem dX4_makeRound_39 : decode cX4_makeRound 39 = .ok (.istore 4, 2) := by decide +kernel
theorem dX4_makeRound_41 : decode cX4_makeRound 41 = .ok (.iload 4, 2) := by decide +kernel
theorem dX4_makeRound_43 : decode cX4_makeRound 43 = .ok (.aload_n 3, 1) := by decide +kernel
theorem dX4_makeRound_44 : decode cX4_makeRound 44 = .ok (.getfield 130, 3) := by decide +kernel
theorem dX4_makeRound_47 : decode cX4_makeRound 47 = .ok (.if_icmp .eq 12, 3) := by decide +kernel
theorem dX4_makeRound_50 : decode cX4_makeRound 50 = .ok (.aload_n 3, 1) := by decide +kernel
theorem dX4_makeRound_51 : decode cX4_makeRound 51 = .ok (.iload 4, 2) := by decide +kernel
theorem dX4_makeRound_53 : decode cX4_makeRound 53 = .ok (.putfield 130, 3) := by decide +kernel
theorem dX4_makeRound_56 : decode cX4_makeRound 56 = .ok (.iinc 1 1, 3) := by decide +kernel
theorem dX4_makeRound_59 : decode cX4_makeRound 59 = .ok (.iinc 2 1, 3) := by decide +kernel
theorem dX4_makeRound_62 : decode cX4_makeRound 62 = .ok (.goto (-54), 3) := by decide +kernel
theorem dX4_makeRound_65 : decode cX4_makeRound 65 = .ok (.iload_n 1, 1) := by decide +kernel
theorem dX4_makeRound_66 : decode cX4_makeRound 66 = .ok (.ireturn, 1) := by decide +kernel
